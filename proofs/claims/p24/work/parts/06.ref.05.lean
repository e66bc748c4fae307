section
theorem hw_readTag : ∀ w ∈ wsX120, w ∈ wsX12_readTag := by decide +kernel
theorem fl_readTag_1 : Cond.fieldLink RX12 270 "MoveTextsModel" "typed" "I" ∈ wsX12_readTag := by decide +kernel
theorem fl_readTag_18 : Cond.fieldLink RX12 52 "MoveTextsModel" "tagCount" "[I" ∈ wsX12_readTag := by decide +kernel
theorem fl_readTag_19 : Cond.fieldLink RX12 55 "MoveTextsModel" "nameSize" "[I" ∈ wsX12_readTag := by decide +kernel
theorem fl_readTag_20 : Cond.fieldLink RX12 58 "MoveTextsModel" "names" "[C" ∈ wsX12_readTag := by decide +kernel
theorem fl_readTag_21 : Cond.fieldLink RX12 61 "MoveTextsModel" "valueSize" "[I" ∈ wsX12_readTag := by decide +kernel
theorem fl_readTag_22 : Cond.fieldLink RX12 64 "MoveTextsModel" "values" "[C" ∈ wsX12_readTag := by decide +kernel
theorem fl_readTag_37 : Cond.fieldLink RX12 267 "MoveTextsModel" "at" "I" ∈ wsX12_readTag := by decide +kernel
theorem hd_readTag : yX12_readTag.cls = RX12 ∧ yX12_readTag.cls ≠ "java/lang/invoke/MethodHandle" ∧ yX12_readTag.cls ≠ "java/lang/invoke/VarHandle" ∧ (parseMethodDescriptor yX12_readTag.desc).map (fun d => d.parameters.length) = some 1 := by decide +kernel
noncomputable def f_readTag_124 (self71 : Int32 → Int32 → Int32 → Int32 → Int32 → (Nat → Int32) → (Nat → Nat → Int32) → Option (Int32 × MS)) (x1 : Int32) (x2 : Int32) (x3 : Int32) (x4 : Int32) (x5 : Int32) (I : Nat → Int32) (A : Nat → Nat → Int32) : Option (Int32 × MS) :=
  m_bnd (x5 + (1 : Int32)) (fun v1 =>
  m_bnd ((I 37) + (1 : Int32)) (fun v2 =>
  m_bnd (upd I 37 v2) (fun I3 =>
  self71 x1 x2 x3 x4 v1 I3 A)))

set_option maxRecDepth 100000 in
set_option maxHeartbeats 4000000 in
theorem w_readTag_124 {p : Program} {l : Launch} {e : Env} {s : State} {m : MethodId} {args : Array Value} {below : List Frame} {meth : Method} {c : Code} {Q : State → Prop} {D : va_G} {cy ci : ClassId} {h : Nat → Nat} {A0 : Nat → Prop} {o : Int32 × MS} (X : CallFix p m c cX12_readTag 7 s args wsX12_readTag RX12) (hret : mRi p l e ({ frames := 6, cells := 0, slots := 0, locals := 146 } : Room) s m args below meth c Q cX12_readTag D cy ci h A0 .int o) {self71 : Int32 → Int32 → Int32 → Int32 → Int32 → (Nat → Int32) → (Nat → Nat → Int32) → Option (Int32 × MS)} (hself71 : ∀ (x1 : Int32) (x2 : Int32) (x3 : Int32) (x4 : Int32) (x5 : Int32) (I : Nat → Int32) (A : Nat → Nat → Int32) (H : Heap) (locs : List Loc) (ls : Array Slot), self71 x1 x2 x3 x4 x5 I A = some o → mH D cy ci h A0 s H locs I A → lv_has ls 7 [(0, .ref (h 0)), (1, .int x1), (2, .int x2), (3, .int x3), (4, .int x4), (5, .int x5)] → W p l e ({ frames := 6, cells := 0, slots := 0, locals := 146 } : Room) s m args below meth c H locs 0 0 Q (F0 m 71 ls [])) {x1 : Int32} {x2 : Int32} {x3 : Int32} {x4 : Int32} {x5 : Int32} {I : Nat → Int32} {A : Nat → Nat → Int32} {H : Heap} {locs : List Loc} {ls : Array Slot} (hf : f_readTag_124 self71 x1 x2 x3 x4 x5 I A = some o) (hM : mH D cy ci h A0 s H locs I A) (hl : lv_has ls 7 [(0, .ref (h 0)), (1, .int x1), (2, .int x2), (3, .int x3), (4, .int x4), (5, .int x5)]) : W p l e ({ frames := 6, cells := 0, slots := 0, locals := 146 } : Room) s m args below meth c H locs 0 0 Q (F0 m 124 ls []) := by
  obtain ⟨hx, hb, hml, hown, hts⟩ := id X
  unfold f_readTag_124 at hf
  obtain ⟨v1, ev, hf⟩ := m_bndE hf
  refine lv_iinc (v := v1) (lv' := [(5, .int v1), (0, .ref (h 0)), (1, .int x1), (2, .int x2), (3, .int x3), (4, .int x4)]) hx hb dX12_readTag_124 hl (k := 5) rfl (by rw [ev]; rfl) (by decide) rfl (fun ls hl => ?_)
  clear ev
  refine lv_aload_n hx hb dX12_readTag_127 rfl (lv_at hl 1 rfl) ?_
  refine lv_dup hx hb dX12_readTag_128 rfl ?_
  refine m_get (v := .int (I 37)) X hw_readTag hM 37 (by decide) fl_readTag_37 rfl dX12_readTag_129 ?_
  refine lv_iconst (v := (1 : Int32)) hx hb dX12_readTag_132 (by decide) ?_
  refine lv_iadd hx hb dX12_readTag_133 ?_
  obtain ⟨v2, ev, hf⟩ := m_bndE hf
  refine m_top ev ?_
  clear ev
  refine m_put X hw_readTag hM 37 (by decide) fl_readTag_37 mi_37 rfl (tyX12_ok 37 (by decide)) dX12_readTag_134 (fun H locs hM => ?_)
  obtain ⟨I3, ev, hf⟩ := m_bndE hf
  replace hM := m_hI hM ev
  clear ev
  refine lv_goto (tgt := 71) hx hb dX12_readTag_137 (by decide) ?_
  exact hself71 _ _ _ _ _ _ _ _ _ _ hf hM (lv_sub hl [1, 2, 3, 4, 5, 0] rfl)
noncomputable def f_readTag_91 (self71 : Int32 → Int32 → Int32 → Int32 → Int32 → (Nat → Int32) → (Nat → Nat → Int32) → Option (Int32 × MS)) (x1 : Int32) (x2 : Int32) (x3 : Int32) (x4 : Int32) (x5 : Int32) (I : Nat → Int32) (A : Nat → Nat → Int32) : Option (Int32 × MS) :=
  m_if ((12 : Int32) ≤ x5) (
  f_readTag_124 self71 x1 x2 x3 x4 x5 I A
  ) (
  m_if (x4 = 0) (
  m_bnd ((96 : Int32) * x1) (fun v1 =>
  m_bnd ((12 : Int32) * x3) (fun v2 =>
  m_bnd (v1 + v2) (fun v3 =>
  m_bnd (v3 + x5) (fun v4 =>
  m_cl (f_look  I A) (fun r5 Ic5 Ac5 =>
  m_chk (¬ (v4 < 0 ∨ 192 ≤ (v4).toNatClampNeg)) (
  m_bnd (va_up Ac5 20 (upd (Ac5 20) (v4).toNatClampNeg (vp_nar .char r5))) (fun A6 =>
  f_readTag_124 self71 x1 x2 x3 x4 x5 Ic5 A6)))))))
  ) (
  f_readTag_124 self71 x1 x2 x3 x4 x5 I A
  )
  )

set_option maxRecDepth 100000 in
set_option maxHeartbeats 4000000 in
theorem w_readTag_91 {p : Program} {l : Launch} {e : Env} {s : State} {m : MethodId} {args : Array Value} {below : List Frame} {meth : Method} {c : Code} {Q : State → Prop} {D : va_G} {cy ci : ClassId} {h : Nat → Nat} {A0 : Nat → Prop} {o : Int32 × MS} (X : CallFix p m c cX12_readTag 7 s args wsX12_readTag RX12) (hret : mRi p l e ({ frames := 6, cells := 0, slots := 0, locals := 146 } : Room) s m args below meth c Q cX12_readTag D cy ci h A0 .int o) {self71 : Int32 → Int32 → Int32 → Int32 → Int32 → (Nat → Int32) → (Nat → Nat → Int32) → Option (Int32 × MS)} (hself71 : ∀ (x1 : Int32) (x2 : Int32) (x3 : Int32) (x4 : Int32) (x5 : Int32) (I : Nat → Int32) (A : Nat → Nat → Int32) (H : Heap) (locs : List Loc) (ls : Array Slot), self71 x1 x2 x3 x4 x5 I A = some o → mH D cy ci h A0 s H locs I A → lv_has ls 7 [(0, .ref (h 0)), (1, .int x1), (2, .int x2), (3, .int x3), (4, .int x4), (5, .int x5)] → W p l e ({ frames := 6, cells := 0, slots := 0, locals := 146 } : Room) s m args below meth c H locs 0 0 Q (F0 m 71 ls [])) {x1 : Int32} {x2 : Int32} {x3 : Int32} {x4 : Int32} {x5 : Int32} {I : Nat → Int32} {A : Nat → Nat → Int32} {H : Heap} {locs : List Loc} {ls : Array Slot} (hf : f_readTag_91 self71 x1 x2 x3 x4 x5 I A = some o) (hM : mH D cy ci h A0 s H locs I A) (hl : lv_has ls 7 [(0, .ref (h 0)), (1, .int x1), (2, .int x2), (3, .int x3), (4, .int x4), (5, .int x5)]) : W p l e ({ frames := 6, cells := 0, slots := 0, locals := 146 } : Room) s m args below meth c H locs 0 0 Q (F0 m 91 ls []) := by
  obtain ⟨hx, hb, hml, hown, hts⟩ := id X
  unfold f_readTag_91 at hf
  refine lv_iload hx hb dX12_readTag_91 (lv_at hl 5 rfl) ?_
  refine lv_bipush (v := (12 : Int32)) hx hb dX12_readTag_93 (by decide) ?_
  refine lv_icmp_ge (tgt := 124) hx hb dX12_readTag_95 (by decide) (fun cc1 => ?_) (fun cc1 => ?_)
  · replace hf := m_ifT hf cc1
    exact w_readTag_124 X hret hself71 hf hM (lv_sub hl [0, 1, 2, 3, 4, 5] rfl)
  · replace hf := m_ifF hf cc1
    refine lv_iload hx hb dX12_readTag_98 (lv_at hl 4 rfl) ?_
    refine lv_if_ne (tgt := 124) hx hb dX12_readTag_100 (by decide) (fun cc1 => ?_) (fun cc1 => ?_)
    · replace hf := m_ifF hf cc1
      exact w_readTag_124 X hret hself71 hf hM (lv_sub hl [0, 1, 2, 3, 4, 5] rfl)
    · replace hf := m_ifT hf cc1
      refine lv_aload_n hx hb dX12_readTag_103 rfl (lv_at hl 0 rfl) ?_
      refine m_get (v := .ref (h 20)) X hw_readTag hM 20 (by decide) fl_readTag_20 rfl dX12_readTag_104 ?_
      refine lv_bipush (v := (96 : Int32)) hx hb dX12_readTag_107 (by decide) ?_
      refine lv_iload_n hx hb dX12_readTag_109 rfl (lv_at hl 1 rfl) ?_
      refine lv_imul hx hb dX12_readTag_110 ?_
      obtain ⟨v1, ev, hf⟩ := m_bndE hf
      refine m_top ev ?_
      clear ev
      refine lv_bipush (v := (12 : Int32)) hx hb dX12_readTag_111 (by decide) ?_
      refine lv_iload_n hx hb dX12_readTag_113 rfl (lv_at hl 3 rfl) ?_
      refine lv_imul hx hb dX12_readTag_114 ?_
      obtain ⟨v2, ev, hf⟩ := m_bndE hf
      refine m_top ev ?_
      clear ev
      refine lv_iadd hx hb dX12_readTag_115 ?_
      obtain ⟨v3, ev, hf⟩ := m_bndE hf
      refine m_top ev ?_
      clear ev
      refine lv_iload hx hb dX12_readTag_116 (lv_at hl 5 rfl) ?_
      refine lv_iadd hx hb dX12_readTag_118 ?_
      obtain ⟨v4, ev, hf⟩ := m_bndE hf
      refine m_top ev ?_
      clear ev
      refine lv_aload_n hx hb dX12_readTag_119 rfl (lv_at hl 0 rfl) ?_
      obtain ⟨o5, ho, hf⟩ := m_clE hf
      refine m_callVi X hM (c_look ho) gX12_readTag_X12_look rfl ⟨rfl, rfl⟩ hd_look ⟨Nat.le_of_ble_eq_true rfl, Nat.le_of_ble_eq_true rfl⟩ rfl hl.1 rfl (Nat.le_of_ble_eq_true rfl) dX12_readTag_120 (fun H locs hM => ?_)
      clear ho
      obtain ⟨cd, hf⟩ := m_chkE hf
      refine m_cast X hM 20 16 192 rfl ma_20 cd dX12_readTag_123 (fun H locs hM => ?_)
      clear cd
      obtain ⟨A6, ev, hf⟩ := m_bndE hf
      replace hM := m_hA hM ev
      clear ev
      exact w_readTag_124 X hret hself71 hf hM (lv_sub hl [0, 1, 2, 3, 4, 5] rfl)
noncomputable def f_readTag_370 (x2 : Int32) (I : Nat → Int32) (A : Nat → Nat → Int32) : Option (Int32 × MS) :=
  m_cl (f_fault (2 : Int32) x2 I A) (fun r1 Ic1 Ac1 =>
  some (r1, (Ic1, Ac1)))

set_option maxRecDepth 100000 in
set_option maxHeartbeats 4000000 in
theorem w_readTag_370 {p : Program} {l : Launch} {e : Env} {s : State} {m : MethodId} {args : Array Value} {below : List Frame} {meth : Method} {c : Code} {Q : State → Prop} {D : va_G} {cy ci : ClassId} {h : Nat → Nat} {A0 : Nat → Prop} {o : Int32 × MS} (X : CallFix p m c cX12_readTag 7 s args wsX12_readTag RX12) (hret : mRi p l e ({ frames := 6, cells := 0, slots := 0, locals := 146 } : Room) s m args below meth c Q cX12_readTag D cy ci h A0 .int o) {x2 : Int32} {I : Nat → Int32} {A : Nat → Nat → Int32} {H : Heap} {locs : List Loc} {ls : Array Slot} (hf : f_readTag_370 x2 I A = some o) (hM : mH D cy ci h A0 s H locs I A) (hl : lv_has ls 7 [(2, .int x2)]) : W p l e ({ frames := 6, cells := 0, slots := 0, locals := 146 } : Room) s m args below meth c H locs 0 0 Q (F0 m 370 ls []) := by
  obtain ⟨hx, hb, hml, hown, hts⟩ := id X
  unfold f_readTag_370 at hf
  refine lv_iconst (v := (2 : Int32)) hx hb dX12_readTag_370 (by decide) ?_
  refine lv_iload_n hx hb dX12_readTag_371 rfl (lv_at hl 0 rfl) ?_
  obtain ⟨o1, ho, hf⟩ := m_clE hf
  refine m_callSi X hM (c_fault ho) gX12_readTag_X12_fault rfl ⟨rfl, rfl⟩ hd_fault ⟨Nat.le_of_ble_eq_true rfl, Nat.le_of_ble_eq_true rfl⟩ rfl hl.1 rfl (Nat.le_of_ble_eq_true rfl) dX12_readTag_372 (fun H locs hM => ?_)
  clear ho
  cases hf
  exact hret H locs _ ls hM rfl dX12_readTag_375
noncomputable def f_readTag_457 (x1 : Int32) (I : Nat → Int32) (A : Nat → Nat → Int32) : Option (Int32 × MS) :=
  m_chk (¬ (x1 < 0 ∨ 2 ≤ (x1).toNatClampNeg)) (
  m_bnd (A 18 (x1).toNatClampNeg) (fun v1 =>
  m_bnd (v1 + (1 : Int32)) (fun v2 =>
  m_chk (¬ (x1 < 0 ∨ 2 ≤ (x1).toNatClampNeg)) (
  m_bnd (va_up A 18 (upd (A 18) (x1).toNatClampNeg v2)) (fun A3 =>
  some ((0 : Int32), (I, A3)))))))

set_option maxRecDepth 100000 in
set_option maxHeartbeats 4000000 in
theorem w_readTag_457 {p : Program} {l : Launch} {e : Env} {s : State} {m : MethodId} {args : Array Value} {below : List Frame} {meth : Method} {c : Code} {Q : State → Prop} {D : va_G} {cy ci : ClassId} {h : Nat → Nat} {A0 : Nat → Prop} {o : Int32 × MS} (X : CallFix p m c cX12_readTag 7 s args wsX12_readTag RX12) (hret : mRi p l e ({ frames := 6, cells := 0, slots := 0, locals := 146 } : Room) s m args below meth c Q cX12_readTag D cy ci h A0 .int o) {x1 : Int32} {I : Nat → Int32} {A : Nat → Nat → Int32} {H : Heap} {locs : List Loc} {ls : Array Slot} (hf : f_readTag_457 x1 I A = some o) (hM : mH D cy ci h A0 s H locs I A) (hl : lv_has ls 7 [(0, .ref (h 0)), (1, .int x1)]) : W p l e ({ frames := 6, cells := 0, slots := 0, locals := 146 } : Room) s m args below meth c H locs 0 0 Q (F0 m 457 ls []) := by
  obtain ⟨hx, hb, hml, hown, hts⟩ := id X
  unfold f_readTag_457 at hf
  refine lv_aload_n hx hb dX12_readTag_457 rfl (lv_at hl 0 rfl) ?_
  refine m_get (v := .ref (h 18)) X hw_readTag hM 18 (by decide) fl_readTag_18 rfl dX12_readTag_458 ?_
  refine lv_iload_n hx hb dX12_readTag_461 rfl (lv_at hl 1 rfl) ?_
  refine lv_dup2_11 hx hb dX12_readTag_462 rfl rfl ?_
  obtain ⟨cd, hf⟩ := m_chkE hf
  refine m_iald X hM 18 14 2 rfl cd dX12_readTag_463 ?_
  clear cd
  obtain ⟨v1, ev, hf⟩ := m_bndE hf
  refine m_top ev ?_
  clear ev
  refine lv_iconst (v := (1 : Int32)) hx hb dX12_readTag_464 (by decide) ?_
  refine lv_iadd hx hb dX12_readTag_465 ?_
  obtain ⟨v2, ev, hf⟩ := m_bndE hf
  refine m_top ev ?_
  clear ev
  obtain ⟨cd, hf⟩ := m_chkE hf
  refine m_iast X hM 18 14 2 rfl ma_18 cd dX12_readTag_466 (fun H locs hM => ?_)
  clear cd
  obtain ⟨A3, ev, hf⟩ := m_bndE hf
  replace hM := m_hA hM ev
  clear ev
  refine lv_iconst (v := (0 : Int32)) hx hb dX12_readTag_467 (by decide) ?_
  cases hf
  exact hret H locs _ ls hM rfl dX12_readTag_468
noncomputable def f_readTag_250 (I : Nat → Int32) (A : Nat → Nat → Int32) : Option (Int32 × MS) :=
  m_cl (f_fault (1 : Int32) (I 37) I A) (fun r1 Ic1 Ac1 =>
  some (r1, (Ic1, Ac1)))

set_option maxRecDepth 100000 in
set_option maxHeartbeats 4000000 in
theorem w_readTag_250 {p : Program} {l : Launch} {e : Env} {s : State} {m : MethodId} {args : Array Value} {below : List Frame} {meth : Method} {c : Code} {Q : State → Prop} {D : va_G} {cy ci : ClassId} {h : Nat → Nat} {A0 : Nat → Prop} {o : Int32 × MS} (X : CallFix p m c cX12_readTag 7 s args wsX12_readTag RX12) (hret : mRi p l e ({ frames := 6, cells := 0, slots := 0, locals := 146 } : Room) s m args below meth c Q cX12_readTag D cy ci h A0 .int o) {I : Nat → Int32} {A : Nat → Nat → Int32} {H : Heap} {locs : List Loc} {ls : Array Slot} (hf : f_readTag_250  I A = some o) (hM : mH D cy ci h A0 s H locs I A) (hl : lv_has ls 7 [(0, .ref (h 0))]) : W p l e ({ frames := 6, cells := 0, slots := 0, locals := 146 } : Room) s m args below meth c H locs 0 0 Q (F0 m 250 ls []) := by
  obtain ⟨hx, hb, hml, hown, hts⟩ := id X
  unfold f_readTag_250 at hf
  refine lv_iconst (v := (1 : Int32)) hx hb dX12_readTag_250 (by decide) ?_
  refine lv_aload_n hx hb dX12_readTag_251 rfl (lv_at hl 0 rfl) ?_
  refine m_get (v := .int (I 37)) X hw_readTag hM 37 (by decide) fl_readTag_37 rfl dX12_readTag_252 ?_
  obtain ⟨o1, ho, hf⟩ := m_clE hf
  refine m_callSi X hM (c_fault ho) gX12_readTag_X12_fault rfl ⟨rfl, rfl⟩ hd_fault ⟨Nat.le_of_ble_eq_true rfl, Nat.le_of_ble_eq_true rfl⟩ rfl hl.1 rfl (Nat.le_of_ble_eq_true rfl) dX12_readTag_255 (fun H locs hM => ?_)
  clear ho
  cases hf
  exact hret H locs _ ls hM rfl dX12_readTag_258
noncomputable def f_readTag_293 (self175 : Int32 → Int32 → Int32 → Int32 → Int32 → Int32 → (Nat → Int32) → (Nat → Nat → Int32) → Option (Int32 × MS)) (x1 : Int32) (x2 : Int32) (x3 : Int32) (x4 : Int32) (x5 : Int32) (x6 : Int32) (I : Nat → Int32) (A : Nat → Nat → Int32) : Option (Int32 × MS) :=
  m_bnd (x6 + (1 : Int32)) (fun v1 =>
  m_bnd ((I 37) + (1 : Int32)) (fun v2 =>
  m_bnd (upd I 37 v2) (fun I3 =>
  self175 x1 x2 x3 x4 x5 v1 I3 A)))

set_option maxRecDepth 100000 in
set_option maxHeartbeats 4000000 in
theorem w_readTag_293 {p : Program} {l : Launch} {e : Env} {s : State} {m : MethodId} {args : Array Value} {below : List Frame} {meth : Method} {c : Code} {Q : State → Prop} {D : va_G} {cy ci : ClassId} {h : Nat → Nat} {A0 : Nat → Prop} {o : Int32 × MS} (X : CallFix p m c cX12_readTag 7 s args wsX12_readTag RX12) (hret : mRi p l e ({ frames := 6, cells := 0, slots := 0, locals := 146 } : Room) s m args below meth c Q cX12_readTag D cy ci h A0 .int o) {self175 : Int32 → Int32 → Int32 → Int32 → Int32 → Int32 → (Nat → Int32) → (Nat → Nat → Int32) → Option (Int32 × MS)} (hself175 : ∀ (x1 : Int32) (x2 : Int32) (x3 : Int32) (x4 : Int32) (x5 : Int32) (x6 : Int32) (I : Nat → Int32) (A : Nat → Nat → Int32) (H : Heap) (locs : List Loc) (ls : Array Slot), self175 x1 x2 x3 x4 x5 x6 I A = some o → mH D cy ci h A0 s H locs I A → lv_has ls 7 [(0, .ref (h 0)), (1, .int x1), (2, .int x2), (3, .int x3), (4, .int x4), (5, .int x5), (6, .int x6)] → W p l e ({ frames := 6, cells := 0, slots := 0, locals := 146 } : Room) s m args below meth c H locs 0 0 Q (F0 m 175 ls [])) {x1 : Int32} {x2 : Int32} {x3 : Int32} {x4 : Int32} {x5 : Int32} {x6 : Int32} {I : Nat → Int32} {A : Nat → Nat → Int32} {H : Heap} {locs : List Loc} {ls : Array Slot} (hf : f_readTag_293 self175 x1 x2 x3 x4 x5 x6 I A = some o) (hM : mH D cy ci h A0 s H locs I A) (hl : lv_has ls 7 [(0, .ref (h 0)), (1, .int x1), (2, .int x2), (3, .int x3), (4, .int x4), (5, .int x5), (6, .int x6)]) : W p l e ({ frames := 6, cells := 0, slots := 0, locals := 146 } : Room) s m args below meth c H locs 0 0 Q (F0 m 293 ls []) := by
  obtain ⟨hx, hb, hml, hown, hts⟩ := id X
  unfold f_readTag_293 at hf
  obtain ⟨v1, ev, hf⟩ := m_bndE hf
  refine lv_iinc (v := v1) (lv' := [(6, .int v1), (0, .ref (h 0)), (1, .int x1), (2, .int x2), (3, .int x3), (4, .int x4), (5, .int x5)]) hx hb dX12_readTag_293 hl (k := 6) rfl (by rw [ev]; rfl) (by decide) rfl (fun ls hl => ?_)
  clear ev
  refine lv_aload_n hx hb dX12_readTag_296 rfl (lv_at hl 1 rfl) ?_
  refine lv_dup hx hb dX12_readTag_297 rfl ?_
  refine m_get (v := .int (I 37)) X hw_readTag hM 37 (by decide) fl_readTag_37 rfl dX12_readTag_298 ?_
  refine lv_iconst (v := (1 : Int32)) hx hb dX12_readTag_301 (by decide) ?_
  refine lv_iadd hx hb dX12_readTag_302 ?_
  obtain ⟨v2, ev, hf⟩ := m_bndE hf
  refine m_top ev ?_
  clear ev
  refine m_put X hw_readTag hM 37 (by decide) fl_readTag_37 mi_37 rfl (tyX12_ok 37 (by decide)) dX12_readTag_303 (fun H locs hM => ?_)
  obtain ⟨I3, ev, hf⟩ := m_bndE hf
  replace hM := m_hI hM ev
  clear ev
  refine lv_goto (tgt := 175) hx hb dX12_readTag_306 (by decide) ?_
  exact hself175 _ _ _ _ _ _ _ _ _ _ _ hf hM (lv_sub hl [1, 2, 3, 4, 5, 6, 0] rfl)
noncomputable def f_readTag_230 (self175 : Int32 → Int32 → Int32 → Int32 → Int32 → Int32 → (Nat → Int32) → (Nat → Nat → Int32) → Option (Int32 × MS)) (x1 : Int32) (x2 : Int32) (x3 : Int32) (x4 : Int32) (x5 : Int32) (x6 : Int32) (I : Nat → Int32) (A : Nat → Nat → Int32) : Option (Int32 × MS) :=
  m_if ((I 37) = (I 1)) (
  f_readTag_250  I A
  ) (
  m_cl (f_look  I A) (fun r1 Ic1 Ac1 =>
  m_if (r1 = (10 : Int32)) (
  f_readTag_250  Ic1 Ac1
  ) (
  m_if ((96 : Int32) ≤ x6) (
  f_readTag_293 self175 x1 x2 x3 x4 x5 x6 Ic1 Ac1
  ) (
  m_if (x4 = 0) (
  m_bnd ((768 : Int32) * x1) (fun v2 =>
  m_bnd ((96 : Int32) * x3) (fun v3 =>
  m_bnd (v2 + v3) (fun v4 =>
  m_bnd (v4 + x6) (fun v5 =>
  m_cl (f_look  Ic1 Ac1) (fun r6 Ic6 Ac6 =>
  m_chk (¬ (v5 < 0 ∨ 1536 ≤ (v5).toNatClampNeg)) (
  m_bnd (va_up Ac6 22 (upd (Ac6 22) (v5).toNatClampNeg (vp_nar .char r6))) (fun A7 =>
  f_readTag_293 self175 x1 x2 x3 x4 x5 x6 Ic6 A7)))))))
  ) (
  f_readTag_293 self175 x1 x2 x3 x4 x5 x6 Ic1 Ac1
  )
  )
  ))
  )

set_option maxRecDepth 100000 in
set_option maxHeartbeats 4000000 in
theorem w_readTag_230 {p : Program} {l : Launch} {e : Env} {s : State} {m : MethodId} {args : Array Value} {below : List Frame} {meth : Method} {c : Code} {Q : State → Prop} {D : va_G} {cy ci : ClassId} {h : Nat → Nat} {A0 : Nat → Prop} {o : Int32 × MS} (X : CallFix p m c cX12_readTag 7 s args wsX12_readTag RX12) (hret : mRi p l e ({ frames := 6, cells := 0, slots := 0, locals := 146 } : Room) s m args below meth c Q cX12_readTag D cy ci h A0 .int o) {self175 : Int32 → Int32 → Int32 → Int32 → Int32 → Int32 → (Nat → Int32) → (Nat → Nat → Int32) → Option (Int32 × MS)} (hself175 : ∀ (x1 : Int32) (x2 : Int32) (x3 : Int32) (x4 : Int32) (x5 : Int32) (x6 : Int32) (I : Nat → Int32) (A : Nat → Nat → Int32) (H : Heap) (locs : List Loc) (ls : Array Slot), self175 x1 x2 x3 x4 x5 x6 I A = some o → mH D cy ci h A0 s H locs I A → lv_has ls 7 [(0, .ref (h 0)), (1, .int x1), (2, .int x2), (3, .int x3), (4, .int x4), (5, .int x5), (6, .int x6)] → W p l e ({ frames := 6, cells := 0, slots := 0, locals := 146 } : Room) s m args below meth c H locs 0 0 Q (F0 m 175 ls [])) {x1 : Int32} {x2 : Int32} {x3 : Int32} {x4 : Int32} {x5 : Int32} {x6 : Int32} {I : Nat → Int32} {A : Nat → Nat → Int32} {H : Heap} {locs : List Loc} {ls : Array Slot} (hf : f_readTag_230 self175 x1 x2 x3 x4 x5 x6 I A = some o) (hM : mH D cy ci h A0 s H locs I A) (hl : lv_has ls 7 [(0, .ref (h 0)), (1, .int x1), (2, .int x2), (3, .int x3), (4, .int x4), (5, .int x5), (6, .int x6)]) : W p l e ({ frames := 6, cells := 0, slots := 0, locals := 146 } : Room) s m args below meth c H locs 0 0 Q (F0 m 230 ls []) := by
  obtain ⟨hx, hb, hml, hown, hts⟩ := id X
  unfold f_readTag_230 at hf
  refine lv_aload_n hx hb dX12_readTag_230 rfl (lv_at hl 0 rfl) ?_
  refine m_get (v := .int (I 37)) X hw_readTag hM 37 (by decide) fl_readTag_37 rfl dX12_readTag_231 ?_
  refine lv_aload_n hx hb dX12_readTag_234 rfl (lv_at hl 0 rfl) ?_
  refine m_get (v := .int (I 1)) X hw_readTag hM 1 (by decide) fl_readTag_1 rfl dX12_readTag_235 ?_
  refine lv_icmp_eq (tgt := 250) hx hb dX12_readTag_238 (by decide) (fun cc1 => ?_) (fun cc1 => ?_)
  · replace hf := m_ifT hf cc1
    exact w_readTag_250 X hret hf hM (lv_sub hl [0] rfl)
  · replace hf := m_ifF hf cc1
    refine lv_aload_n hx hb dX12_readTag_241 rfl (lv_at hl 0 rfl) ?_
    obtain ⟨o1, ho, hf⟩ := m_clE hf
    refine m_callVi X hM (c_look ho) gX12_readTag_X12_look rfl ⟨rfl, rfl⟩ hd_look ⟨Nat.le_of_ble_eq_true rfl, Nat.le_of_ble_eq_true rfl⟩ rfl hl.1 rfl (Nat.le_of_ble_eq_true rfl) dX12_readTag_242 (fun H locs hM => ?_)
    clear ho
    refine lv_bipush (v := (10 : Int32)) hx hb dX12_readTag_245 (by decide) ?_
    refine lv_icmp_ne (tgt := 259) hx hb dX12_readTag_247 (by decide) (fun cc1 => ?_) (fun cc1 => ?_)
    · replace hf := m_ifF hf cc1
      refine lv_iload hx hb dX12_readTag_259 (lv_at hl 6 rfl) ?_
      refine lv_bipush (v := (96 : Int32)) hx hb dX12_readTag_261 (by decide) ?_
      refine lv_icmp_ge (tgt := 293) hx hb dX12_readTag_263 (by decide) (fun cc1 => ?_) (fun cc1 => ?_)
      · replace hf := m_ifT hf cc1
        exact w_readTag_293 X hret hself175 hf hM (lv_sub hl [0, 1, 2, 3, 4, 5, 6] rfl)
      · replace hf := m_ifF hf cc1
        refine lv_iload hx hb dX12_readTag_266 (lv_at hl 4 rfl) ?_
        refine lv_if_ne (tgt := 293) hx hb dX12_readTag_268 (by decide) (fun cc1 => ?_) (fun cc1 => ?_)
        · replace hf := m_ifF hf cc1
          exact w_readTag_293 X hret hself175 hf hM (lv_sub hl [0, 1, 2, 3, 4, 5, 6] rfl)
        · replace hf := m_ifT hf cc1
          refine lv_aload_n hx hb dX12_readTag_271 rfl (lv_at hl 0 rfl) ?_
          refine m_get (v := .ref (h 22)) X hw_readTag hM 22 (by decide) fl_readTag_22 rfl dX12_readTag_272 ?_
          refine lv_sipush (v := (768 : Int32)) hx hb dX12_readTag_275 (by decide) ?_
          refine lv_iload_n hx hb dX12_readTag_278 rfl (lv_at hl 1 rfl) ?_
          refine lv_imul hx hb dX12_readTag_279 ?_
          obtain ⟨v2, ev, hf⟩ := m_bndE hf
          refine m_top ev ?_
          clear ev
          refine lv_bipush (v := (96 : Int32)) hx hb dX12_readTag_280 (by decide) ?_
          refine lv_iload_n hx hb dX12_readTag_282 rfl (lv_at hl 3 rfl) ?_
          refine lv_imul hx hb dX12_readTag_283 ?_
          obtain ⟨v3, ev, hf⟩ := m_bndE hf
          refine m_top ev ?_
          clear ev
          refine lv_iadd hx hb dX12_readTag_284 ?_
          obtain ⟨v4, ev, hf⟩ := m_bndE hf
          refine m_top ev ?_
          clear ev
          refine lv_iload hx hb dX12_readTag_285 (lv_at hl 6 rfl) ?_
          refine lv_iadd hx hb dX12_readTag_287 ?_
          obtain ⟨v5, ev, hf⟩ := m_bndE hf
          refine m_top ev ?_
          clear ev
          refine lv_aload_n hx hb dX12_readTag_288 rfl (lv_at hl 0 rfl) ?_
          obtain ⟨o6, ho, hf⟩ := m_clE hf
          refine m_callVi X hM (c_look ho) gX12_readTag_X12_look rfl ⟨rfl, rfl⟩ hd_look ⟨Nat.le_of_ble_eq_true rfl, Nat.le_of_ble_eq_true rfl⟩ rfl hl.1 rfl (Nat.le_of_ble_eq_true rfl) dX12_readTag_289 (fun H locs hM => ?_)
          clear ho
          obtain ⟨cd, hf⟩ := m_chkE hf
          refine m_cast X hM 22 18 1536 rfl ma_22 cd dX12_readTag_292 (fun H locs hM => ?_)
          clear cd
          obtain ⟨A7, ev, hf⟩ := m_bndE hf
          replace hM := m_hA hM ev
          clear ev
          exact w_readTag_293 X hret hself175 hf hM (lv_sub hl [0, 1, 2, 3, 4, 5, 6] rfl)
    · replace hf := m_ifT hf cc1
      exact w_readTag_250 X hret hf hM (lv_sub hl [0] rfl)
noncomputable def f_readTag_175s (self175 : Int32 → Int32 → Int32 → Int32 → Int32 → Int32 → (Nat → Int32) → (Nat → Nat → Int32) → Option (Int32 × MS)) (x1 : Int32) (x2 : Int32) (x3 : Int32) (x4 : Int32) (x5 : Int32) (x6 : Int32) (I : Nat → Int32) (A : Nat → Nat → Int32) : Option (Int32 × MS) :=
  m_cl (f_look  I A) (fun r1 Ic1 Ac1 =>
  m_if (r1 = (34 : Int32)) (
  m_bnd ((Ic1 37) + (1 : Int32)) (fun v2 =>
  m_bnd (upd Ic1 37 v2) (fun I3 =>
  m_cl (f_blanks  I3 Ac1) (fun r4 Ic4 Ac4 =>
  m_cl (f_look  Ic4 Ac4) (fun r5 Ic5 Ac5 =>
  m_if (r5 = (93 : Int32)) (
  m_bnd ((Ic5 37) + (1 : Int32)) (fun v6 =>
  m_bnd (upd Ic5 37 v6) (fun I7 =>
  m_if (x4 = 0) (
  m_if ((12 : Int32) < x5) (
  f_readTag_370 x2 I7 Ac5
  ) (
  m_if (x6 ≤ (96 : Int32)) (
  m_bnd ((8 : Int32) * x1) (fun v8 =>
  m_bnd (v8 + x3) (fun v9 =>
  m_chk (¬ (v9 < 0 ∨ 16 ≤ (v9).toNatClampNeg)) (
  m_bnd (va_up Ac5 19 (upd (Ac5 19) (v9).toNatClampNeg x5)) (fun A10 =>
  m_bnd ((8 : Int32) * x1) (fun v11 =>
  m_bnd (v11 + x3) (fun v12 =>
  m_chk (¬ (v12 < 0 ∨ 16 ≤ (v12).toNatClampNeg)) (
  m_bnd (va_up A10 21 (upd (A10 21) (v12).toNatClampNeg x6)) (fun A13 =>
  m_cl (f_isNameThere x1 x3 I7 A13) (fun r14 Ic14 Ac14 =>
  m_if (r14 = 0) (
  m_cl (f_isTag x3 x1 (0 : Int32) Ic14 Ac14) (fun r15 Ic15 Ac15 =>
  m_if (r15 = 0) (
  f_readTag_457 x1 Ic15 Ac15
  ) (
  m_bnd ((768 : Int32) * x1) (fun v16 =>
  m_bnd ((96 : Int32) * x3) (fun v17 =>
  m_bnd (v16 + v17) (fun v18 =>
  m_cl (f_readPosition v18 x6 Ic15 Ac15) (fun r19 Ic19 Ac19 =>
  m_if (r19 = 0) (
  m_cl (f_fault (3 : Int32) x2 Ic19 Ac19) (fun r21 Ic21 Ac21 =>
  some (r21, (Ic21, Ac21)))
  ) (
  m_cl (f_start x1 Ic19 Ac19) (fun r20 Ic20 Ac20 =>
  f_readTag_457 x1 Ic20 Ac20)
  )))))
  ))
  ) (
  m_cl (f_fault (2 : Int32) x2 Ic14 Ac14) (fun r22 Ic22 Ac22 =>
  some (r22, (Ic22, Ac22)))
  ))))))))))
  ) (
  f_readTag_370 x2 I7 Ac5
  )
  )
  ) (
  f_readTag_370 x2 I7 Ac5
  )))
  ) (
  m_cl (f_fault (1 : Int32) (Ic5 37) Ic5 Ac5) (fun r23 Ic23 Ac23 =>
  some (r23, (Ic23, Ac23)))
  )))))
  ) (
  m_cl (f_look  Ic1 Ac1) (fun r24 Ic24 Ac24 =>
  m_if (r24 = (92 : Int32)) (
  m_bnd ((Ic24 37) + (1 : Int32)) (fun v25 =>
  m_bnd (upd Ic24 37 v25) (fun I26 =>
  m_cl (f_look  I26 Ac24) (fun r27 Ic27 Ac27 =>
  m_if (r27 = (34 : Int32)) (
  f_readTag_230 self175 x1 x2 x3 x4 x5 x6 Ic27 Ac27
  ) (
  m_cl (f_look  Ic27 Ac27) (fun r28 Ic28 Ac28 =>
  m_if (r28 = (92 : Int32)) (
  f_readTag_230 self175 x1 x2 x3 x4 x5 x6 Ic28 Ac28
  ) (
  m_cl (f_fault (1 : Int32) (Ic28 37) Ic28 Ac28) (fun r29 Ic29 Ac29 =>
  some (r29, (Ic29, Ac29)))
  ))
  ))))
  ) (
  f_readTag_230 self175 x1 x2 x3 x4 x5 x6 Ic24 Ac24
  ))
  ))

set_option maxRecDepth 100000 in
set_option maxHeartbeats 4000000 in
theorem ws_readTag_175 {p : Program} {l : Launch} {e : Env} {s : State} {m : MethodId} {args : Array Value} {below : List Frame} {meth : Method} {c : Code} {Q : State → Prop} {D : va_G} {cy ci : ClassId} {h : Nat → Nat} {A0 : Nat → Prop} {o : Int32 × MS} (X : CallFix p m c cX12_readTag 7 s args wsX12_readTag RX12) (hret : mRi p l e ({ frames := 6, cells := 0, slots := 0, locals := 146 } : Room) s m args below meth c Q cX12_readTag D cy ci h A0 .int o) {self175 : Int32 → Int32 → Int32 → Int32 → Int32 → Int32 → (Nat → Int32) → (Nat → Nat → Int32) → Option (Int32 × MS)} (hself175 : ∀ (x1 : Int32) (x2 : Int32) (x3 : Int32) (x4 : Int32) (x5 : Int32) (x6 : Int32) (I : Nat → Int32) (A : Nat → Nat → Int32) (H : Heap) (locs : List Loc) (ls : Array Slot), self175 x1 x2 x3 x4 x5 x6 I A = some o → mH D cy ci h A0 s H locs I A → lv_has ls 7 [(0, .ref (h 0)), (1, .int x1), (2, .int x2), (3, .int x3), (4, .int x4), (5, .int x5), (6, .int x6)] → W p l e ({ frames := 6, cells := 0, slots := 0, locals := 146 } : Room) s m args below meth c H locs 0 0 Q (F0 m 175 ls [])) {x1 : Int32} {x2 : Int32} {x3 : Int32} {x4 : Int32} {x5 : Int32} {x6 : Int32} {I : Nat → Int32} {A : Nat → Nat → Int32} {H : Heap} {locs : List Loc} {ls : Array Slot} (hf : f_readTag_175s self175 x1 x2 x3 x4 x5 x6 I A = some o) (hM : mH D cy ci h A0 s H locs I A) (hl : lv_has ls 7 [(0, .ref (h 0)), (1, .int x1), (2, .int x2), (3, .int x3), (4, .int x4), (5, .int x5), (6, .int x6)]) : W p l e ({ frames := 6, cells := 0, slots := 0, locals := 146 } : Room) s m args below meth c H locs 0 0 Q (F0 m 175 ls []) := by
  obtain ⟨hx, hb, hml, hown, hts⟩ := id X
  unfold f_readTag_175s at hf
  refine lv_aload_n hx hb dX12_readTag_175 rfl (lv_at hl 0 rfl) ?_
  obtain ⟨o1, ho, hf⟩ := m_clE hf
  refine m_callVi X hM (c_look ho) gX12_readTag_X12_look rfl ⟨rfl, rfl⟩ hd_look ⟨Nat.le_of_ble_eq_true rfl, Nat.le_of_ble_eq_true rfl⟩ rfl hl.1 rfl (Nat.le_of_ble_eq_true rfl) dX12_readTag_176 (fun H locs hM => ?_)
  clear ho
  refine lv_bipush (v := (34 : Int32)) hx hb dX12_readTag_179 (by decide) ?_
  refine lv_icmp_eq (tgt := 309) hx hb dX12_readTag_181 (by decide) (fun cc1 => ?_) (fun cc1 => ?_)
  · replace hf := m_ifT hf cc1
    refine lv_aload_n hx hb dX12_readTag_309 rfl (lv_at hl 0 rfl) ?_
    refine lv_dup hx hb dX12_readTag_310 rfl ?_
    refine m_get (v := .int (o1.2.1 37)) X hw_readTag hM 37 (by decide) fl_readTag_37 rfl dX12_readTag_311 ?_
    refine lv_iconst (v := (1 : Int32)) hx hb dX12_readTag_314 (by decide) ?_
    refine lv_iadd hx hb dX12_readTag_315 ?_
    obtain ⟨v2, ev, hf⟩ := m_bndE hf
    refine m_top ev ?_
    clear ev
    refine m_put X hw_readTag hM 37 (by decide) fl_readTag_37 mi_37 rfl (tyX12_ok 37 (by decide)) dX12_readTag_316 (fun H locs hM => ?_)
    obtain ⟨I3, ev, hf⟩ := m_bndE hf
    replace hM := m_hI hM ev
    clear ev
    refine lv_aload_n hx hb dX12_readTag_319 rfl (lv_at hl 0 rfl) ?_
    obtain ⟨o4, ho, hf⟩ := m_clE hf
    refine m_callVv X hM (c_blanks ho) gX12_readTag_X12_blanks rfl ⟨rfl, rfl⟩ hd_blanks ⟨Nat.le_of_ble_eq_true rfl, Nat.le_of_ble_eq_true rfl⟩ rfl hl.1 rfl (Nat.le_of_ble_eq_true rfl) dX12_readTag_320 (fun H locs hM => ?_)
    clear ho
    refine lv_aload_n hx hb dX12_readTag_323 rfl (lv_at hl 0 rfl) ?_
    obtain ⟨o5, ho, hf⟩ := m_clE hf
    refine m_callVi X hM (c_look ho) gX12_readTag_X12_look rfl ⟨rfl, rfl⟩ hd_look ⟨Nat.le_of_ble_eq_true rfl, Nat.le_of_ble_eq_true rfl⟩ rfl hl.1 rfl (Nat.le_of_ble_eq_true rfl) dX12_readTag_324 (fun H locs hM => ?_)
    clear ho
    refine lv_bipush (v := (93 : Int32)) hx hb dX12_readTag_327 (by decide) ?_
    refine lv_icmp_eq (tgt := 341) hx hb dX12_readTag_329 (by decide) (fun cc1 => ?_) (fun cc1 => ?_)
    · replace hf := m_ifT hf cc1
      refine lv_aload_n hx hb dX12_readTag_341 rfl (lv_at hl 0 rfl) ?_
      refine lv_dup hx hb dX12_readTag_342 rfl ?_
      refine m_get (v := .int (o5.2.1 37)) X hw_readTag hM 37 (by decide) fl_readTag_37 rfl dX12_readTag_343 ?_
      refine lv_iconst (v := (1 : Int32)) hx hb dX12_readTag_346 (by decide) ?_
      refine lv_iadd hx hb dX12_readTag_347 ?_
      obtain ⟨v6, ev, hf⟩ := m_bndE hf
      refine m_top ev ?_
      clear ev
      refine m_put X hw_readTag hM 37 (by decide) fl_readTag_37 mi_37 rfl (tyX12_ok 37 (by decide)) dX12_readTag_348 (fun H locs hM => ?_)
      obtain ⟨I7, ev, hf⟩ := m_bndE hf
      replace hM := m_hI hM ev
      clear ev
      refine lv_iload hx hb dX12_readTag_351 (lv_at hl 4 rfl) ?_
      refine lv_if_ne (tgt := 370) hx hb dX12_readTag_353 (by decide) (fun cc1 => ?_) (fun cc1 => ?_)
      · replace hf := m_ifF hf cc1
        exact w_readTag_370 X hret hf hM (lv_sub hl [2] rfl)
      · replace hf := m_ifT hf cc1
        refine lv_iload hx hb dX12_readTag_356 (lv_at hl 5 rfl) ?_
        refine lv_bipush (v := (12 : Int32)) hx hb dX12_readTag_358 (by decide) ?_
        refine lv_icmp_gt (tgt := 370) hx hb dX12_readTag_360 (by decide) (fun cc1 => ?_) (fun cc1 => ?_)
        · replace hf := m_ifT hf cc1
          exact w_readTag_370 X hret hf hM (lv_sub hl [2] rfl)
        · replace hf := m_ifF hf cc1
          refine lv_iload hx hb dX12_readTag_363 (lv_at hl 6 rfl) ?_
          refine lv_bipush (v := (96 : Int32)) hx hb dX12_readTag_365 (by decide) ?_
          refine lv_icmp_le (tgt := 376) hx hb dX12_readTag_367 (by decide) (fun cc1 => ?_) (fun cc1 => ?_)
          · replace hf := m_ifT hf cc1
            refine lv_aload_n hx hb dX12_readTag_376 rfl (lv_at hl 0 rfl) ?_
            refine m_get (v := .ref (h 19)) X hw_readTag hM 19 (by decide) fl_readTag_19 rfl dX12_readTag_377 ?_
            refine lv_bipush (v := (8 : Int32)) hx hb dX12_readTag_380 (by decide) ?_
            refine lv_iload_n hx hb dX12_readTag_382 rfl (lv_at hl 1 rfl) ?_
            refine lv_imul hx hb dX12_readTag_383 ?_
            obtain ⟨v8, ev, hf⟩ := m_bndE hf
            refine m_top ev ?_
            clear ev
            refine lv_iload_n hx hb dX12_readTag_384 rfl (lv_at hl 3 rfl) ?_
            refine lv_iadd hx hb dX12_readTag_385 ?_
            obtain ⟨v9, ev, hf⟩ := m_bndE hf
            refine m_top ev ?_
            clear ev
            refine lv_iload hx hb dX12_readTag_386 (lv_at hl 5 rfl) ?_
            obtain ⟨cd, hf⟩ := m_chkE hf
            refine m_iast X hM 19 15 16 rfl ma_19 cd dX12_readTag_388 (fun H locs hM => ?_)
            clear cd
            obtain ⟨A10, ev, hf⟩ := m_bndE hf
            replace hM := m_hA hM ev
            clear ev
            refine lv_aload_n hx hb dX12_readTag_389 rfl (lv_at hl 0 rfl) ?_
            refine m_get (v := .ref (h 21)) X hw_readTag hM 21 (by decide) fl_readTag_21 rfl dX12_readTag_390 ?_
            refine lv_bipush (v := (8 : Int32)) hx hb dX12_readTag_393 (by decide) ?_
            refine lv_iload_n hx hb dX12_readTag_395 rfl (lv_at hl 1 rfl) ?_
            refine lv_imul hx hb dX12_readTag_396 ?_
            obtain ⟨v11, ev, hf⟩ := m_bndE hf
            refine m_top ev ?_
            clear ev
            refine lv_iload_n hx hb dX12_readTag_397 rfl (lv_at hl 3 rfl) ?_
            refine lv_iadd hx hb dX12_readTag_398 ?_
            obtain ⟨v12, ev, hf⟩ := m_bndE hf
            refine m_top ev ?_
            clear ev
            refine lv_iload hx hb dX12_readTag_399 (lv_at hl 6 rfl) ?_
            obtain ⟨cd, hf⟩ := m_chkE hf
            refine m_iast X hM 21 17 16 rfl ma_21 cd dX12_readTag_401 (fun H locs hM => ?_)
            clear cd
            obtain ⟨A13, ev, hf⟩ := m_bndE hf
            replace hM := m_hA hM ev
            clear ev
            refine lv_aload_n hx hb dX12_readTag_402 rfl (lv_at hl 0 rfl) ?_
            refine lv_iload_n hx hb dX12_readTag_403 rfl (lv_at hl 1 rfl) ?_
            refine lv_iload_n hx hb dX12_readTag_404 rfl (lv_at hl 3 rfl) ?_
            obtain ⟨o14, ho, hf⟩ := m_clE hf
            refine m_callVi X hM (c_isNameThere ho) gX12_readTag_X12_isNameThere rfl ⟨rfl, rfl⟩ hd_isNameThere ⟨Nat.le_of_ble_eq_true rfl, Nat.le_of_ble_eq_true rfl⟩ rfl hl.1 rfl (Nat.le_of_ble_eq_true rfl) dX12_readTag_405 (fun H locs hM => ?_)
            clear ho
            refine lv_if_eq (tgt := 417) hx hb dX12_readTag_408 (by decide) (fun cc1 => ?_) (fun cc1 => ?_)
            · replace hf := m_ifT hf cc1
              refine lv_aload_n hx hb dX12_readTag_417 rfl (lv_at hl 0 rfl) ?_
              refine lv_iload_n hx hb dX12_readTag_418 rfl (lv_at hl 3 rfl) ?_
              refine lv_iload_n hx hb dX12_readTag_419 rfl (lv_at hl 1 rfl) ?_
              refine lv_iconst (v := (0 : Int32)) hx hb dX12_readTag_420 (by decide) ?_
              obtain ⟨o15, ho, hf⟩ := m_clE hf
              refine m_callVi X hM (c_isTag ho) gX12_readTag_X12_isTag rfl ⟨rfl, rfl⟩ hd_isTag ⟨Nat.le_of_ble_eq_true rfl, Nat.le_of_ble_eq_true rfl⟩ rfl hl.1 rfl (Nat.le_of_ble_eq_true rfl) dX12_readTag_421 (fun H locs hM => ?_)
              clear ho
              refine lv_if_eq (tgt := 457) hx hb dX12_readTag_424 (by decide) (fun cc1 => ?_) (fun cc1 => ?_)
              · replace hf := m_ifT hf cc1
                exact w_readTag_457 X hret hf hM (lv_sub hl [0, 1] rfl)
              · replace hf := m_ifF hf cc1
                refine lv_aload_n hx hb dX12_readTag_427 rfl (lv_at hl 0 rfl) ?_
                refine lv_sipush (v := (768 : Int32)) hx hb dX12_readTag_428 (by decide) ?_
                refine lv_iload_n hx hb dX12_readTag_431 rfl (lv_at hl 1 rfl) ?_
                refine lv_imul hx hb dX12_readTag_432 ?_
                obtain ⟨v16, ev, hf⟩ := m_bndE hf
                refine m_top ev ?_
                clear ev
                refine lv_bipush (v := (96 : Int32)) hx hb dX12_readTag_433 (by decide) ?_
                refine lv_iload_n hx hb dX12_readTag_435 rfl (lv_at hl 3 rfl) ?_
                refine lv_imul hx hb dX12_readTag_436 ?_
                obtain ⟨v17, ev, hf⟩ := m_bndE hf
                refine m_top ev ?_
                clear ev
                refine lv_iadd hx hb dX12_readTag_437 ?_
                obtain ⟨v18, ev, hf⟩ := m_bndE hf
                refine m_top ev ?_
                clear ev
                refine lv_iload hx hb dX12_readTag_438 (lv_at hl 6 rfl) ?_
                obtain ⟨o19, ho, hf⟩ := m_clE hf
                refine m_callVi X hM (c_readPosition ho) gX12_readTag_X12_readPosition rfl ⟨rfl, rfl⟩ hd_readPosition ⟨Nat.le_of_ble_eq_true rfl, Nat.le_of_ble_eq_true rfl⟩ rfl hl.1 rfl (Nat.le_of_ble_eq_true rfl) dX12_readTag_440 (fun H locs hM => ?_)
                clear ho
                refine lv_if_ne (tgt := 452) hx hb dX12_readTag_443 (by decide) (fun cc1 => ?_) (fun cc1 => ?_)
                · replace hf := m_ifF hf cc1
                  refine lv_aload_n hx hb dX12_readTag_452 rfl (lv_at hl 0 rfl) ?_
                  refine lv_iload_n hx hb dX12_readTag_453 rfl (lv_at hl 1 rfl) ?_
                  obtain ⟨o20, ho, hf⟩ := m_clE hf
                  refine m_callVv X hM (c_start ho) gX12_readTag_X12_start rfl ⟨rfl, rfl⟩ hd_start ⟨Nat.le_of_ble_eq_true rfl, Nat.le_of_ble_eq_true rfl⟩ rfl hl.1 rfl (Nat.le_of_ble_eq_true rfl) dX12_readTag_454 (fun H locs hM => ?_)
                  clear ho
                  exact w_readTag_457 X hret hf hM (lv_sub hl [0, 1] rfl)
                · replace hf := m_ifT hf cc1
                  refine lv_iconst (v := (3 : Int32)) hx hb dX12_readTag_446 (by decide) ?_
                  refine lv_iload_n hx hb dX12_readTag_447 rfl (lv_at hl 2 rfl) ?_
                  obtain ⟨o21, ho, hf⟩ := m_clE hf
                  refine m_callSi X hM (c_fault ho) gX12_readTag_X12_fault rfl ⟨rfl, rfl⟩ hd_fault ⟨Nat.le_of_ble_eq_true rfl, Nat.le_of_ble_eq_true rfl⟩ rfl hl.1 rfl (Nat.le_of_ble_eq_true rfl) dX12_readTag_448 (fun H locs hM => ?_)
                  clear ho
                  cases hf
                  exact hret H locs _ ls hM rfl dX12_readTag_451
            · replace hf := m_ifF hf cc1
              refine lv_iconst (v := (2 : Int32)) hx hb dX12_readTag_411 (by decide) ?_
              refine lv_iload_n hx hb dX12_readTag_412 rfl (lv_at hl 2 rfl) ?_
              obtain ⟨o22, ho, hf⟩ := m_clE hf
              refine m_callSi X hM (c_fault ho) gX12_readTag_X12_fault rfl ⟨rfl, rfl⟩ hd_fault ⟨Nat.le_of_ble_eq_true rfl, Nat.le_of_ble_eq_true rfl⟩ rfl hl.1 rfl (Nat.le_of_ble_eq_true rfl) dX12_readTag_413 (fun H locs hM => ?_)
              clear ho
              cases hf
              exact hret H locs _ ls hM rfl dX12_readTag_416
          · replace hf := m_ifF hf cc1
            exact w_readTag_370 X hret hf hM (lv_sub hl [2] rfl)
    · replace hf := m_ifF hf cc1
      refine lv_iconst (v := (1 : Int32)) hx hb dX12_readTag_332 (by decide) ?_
      refine lv_aload_n hx hb dX12_readTag_333 rfl (lv_at hl 0 rfl) ?_
      refine m_get (v := .int (o5.2.1 37)) X hw_readTag hM 37 (by decide) fl_readTag_37 rfl dX12_readTag_334 ?_
      obtain ⟨o23, ho, hf⟩ := m_clE hf
      refine m_callSi X hM (c_fault ho) gX12_readTag_X12_fault rfl ⟨rfl, rfl⟩ hd_fault ⟨Nat.le_of_ble_eq_true rfl, Nat.le_of_ble_eq_true rfl⟩ rfl hl.1 rfl (Nat.le_of_ble_eq_true rfl) dX12_readTag_337 (fun H locs hM => ?_)
      clear ho
      cases hf
      exact hret H locs _ ls hM rfl dX12_readTag_340
  · replace hf := m_ifF hf cc1
    refine lv_aload_n hx hb dX12_readTag_184 rfl (lv_at hl 0 rfl) ?_
    obtain ⟨o24, ho, hf⟩ := m_clE hf
    refine m_callVi X hM (c_look ho) gX12_readTag_X12_look rfl ⟨rfl, rfl⟩ hd_look ⟨Nat.le_of_ble_eq_true rfl, Nat.le_of_ble_eq_true rfl⟩ rfl hl.1 rfl (Nat.le_of_ble_eq_true rfl) dX12_readTag_185 (fun H locs hM => ?_)
    clear ho
    refine lv_bipush (v := (92 : Int32)) hx hb dX12_readTag_188 (by decide) ?_
    refine lv_icmp_ne (tgt := 230) hx hb dX12_readTag_190 (by decide) (fun cc1 => ?_) (fun cc1 => ?_)
    · replace hf := m_ifF hf cc1
      exact w_readTag_230 X hret hself175 hf hM (lv_sub hl [0, 1, 2, 3, 4, 5, 6] rfl)
    · replace hf := m_ifT hf cc1
      refine lv_aload_n hx hb dX12_readTag_193 rfl (lv_at hl 0 rfl) ?_
      refine lv_dup hx hb dX12_readTag_194 rfl ?_
      refine m_get (v := .int (o24.2.1 37)) X hw_readTag hM 37 (by decide) fl_readTag_37 rfl dX12_readTag_195 ?_
      refine lv_iconst (v := (1 : Int32)) hx hb dX12_readTag_198 (by decide) ?_
      refine lv_iadd hx hb dX12_readTag_199 ?_
      obtain ⟨v25, ev, hf⟩ := m_bndE hf
      refine m_top ev ?_
      clear ev
      refine m_put X hw_readTag hM 37 (by decide) fl_readTag_37 mi_37 rfl (tyX12_ok 37 (by decide)) dX12_readTag_200 (fun H locs hM => ?_)
      obtain ⟨I26, ev, hf⟩ := m_bndE hf
      replace hM := m_hI hM ev
      clear ev
      refine lv_aload_n hx hb dX12_readTag_203 rfl (lv_at hl 0 rfl) ?_
      obtain ⟨o27, ho, hf⟩ := m_clE hf
      refine m_callVi X hM (c_look ho) gX12_readTag_X12_look rfl ⟨rfl, rfl⟩ hd_look ⟨Nat.le_of_ble_eq_true rfl, Nat.le_of_ble_eq_true rfl⟩ rfl hl.1 rfl (Nat.le_of_ble_eq_true rfl) dX12_readTag_204 (fun H locs hM => ?_)
      clear ho
      refine lv_bipush (v := (34 : Int32)) hx hb dX12_readTag_207 (by decide) ?_
      refine lv_icmp_eq (tgt := 230) hx hb dX12_readTag_209 (by decide) (fun cc1 => ?_) (fun cc1 => ?_)
      · replace hf := m_ifT hf cc1
        exact w_readTag_230 X hret hself175 hf hM (lv_sub hl [0, 1, 2, 3, 4, 5, 6] rfl)
      · replace hf := m_ifF hf cc1
        refine lv_aload_n hx hb dX12_readTag_212 rfl (lv_at hl 0 rfl) ?_
        obtain ⟨o28, ho, hf⟩ := m_clE hf
        refine m_callVi X hM (c_look ho) gX12_readTag_X12_look rfl ⟨rfl, rfl⟩ hd_look ⟨Nat.le_of_ble_eq_true rfl, Nat.le_of_ble_eq_true rfl⟩ rfl hl.1 rfl (Nat.le_of_ble_eq_true rfl) dX12_readTag_213 (fun H locs hM => ?_)
        clear ho
        refine lv_bipush (v := (92 : Int32)) hx hb dX12_readTag_216 (by decide) ?_
        refine lv_icmp_eq (tgt := 230) hx hb dX12_readTag_218 (by decide) (fun cc1 => ?_) (fun cc1 => ?_)
        · replace hf := m_ifT hf cc1
          exact w_readTag_230 X hret hself175 hf hM (lv_sub hl [0, 1, 2, 3, 4, 5, 6] rfl)
        · replace hf := m_ifF hf cc1
          refine lv_iconst (v := (1 : Int32)) hx hb dX12_readTag_221 (by decide) ?_
          refine lv_aload_n hx hb dX12_readTag_222 rfl (lv_at hl 0 rfl) ?_
          refine m_get (v := .int (o28.2.1 37)) X hw_readTag hM 37 (by decide) fl_readTag_37 rfl dX12_readTag_223 ?_
          obtain ⟨o29, ho, hf⟩ := m_clE hf
          refine m_callSi X hM (c_fault ho) gX12_readTag_X12_fault rfl ⟨rfl, rfl⟩ hd_fault ⟨Nat.le_of_ble_eq_true rfl, Nat.le_of_ble_eq_true rfl⟩ rfl hl.1 rfl (Nat.le_of_ble_eq_true rfl) dX12_readTag_226 (fun H locs hM => ?_)
          clear ho
          cases hf
          exact hret H locs _ ls hM rfl dX12_readTag_229
noncomputable def f_readTag_175 : Nat → Int32 → Int32 → Int32 → Int32 → Int32 → Int32 → (Nat → Int32) → (Nat → Nat → Int32) → Option (Int32 × MS)
  | 0 => fun _ _ _ _ _ _ _ _ => none
  | n + 1 => f_readTag_175s (f_readTag_175 n)
theorem w_readTag_175 {p : Program} {l : Launch} {e : Env} {s : State} {m : MethodId} {args : Array Value} {below : List Frame} {meth : Method} {c : Code} {Q : State → Prop} {D : va_G} {cy ci : ClassId} {h : Nat → Nat} {A0 : Nat → Prop} {o : Int32 × MS} (X : CallFix p m c cX12_readTag 7 s args wsX12_readTag RX12) (hret : mRi p l e ({ frames := 6, cells := 0, slots := 0, locals := 146 } : Room) s m args below meth c Q cX12_readTag D cy ci h A0 .int o) (n : Nat) : ∀ (x1 : Int32) (x2 : Int32) (x3 : Int32) (x4 : Int32) (x5 : Int32) (x6 : Int32) (I : Nat → Int32) (A : Nat → Nat → Int32) (H : Heap) (locs : List Loc) (ls : Array Slot), f_readTag_175 n x1 x2 x3 x4 x5 x6 I A = some o → mH D cy ci h A0 s H locs I A → lv_has ls 7 [(0, .ref (h 0)), (1, .int x1), (2, .int x2), (3, .int x3), (4, .int x4), (5, .int x5), (6, .int x6)] → W p l e ({ frames := 6, cells := 0, slots := 0, locals := 146 } : Room) s m args below meth c H locs 0 0 Q (F0 m 175 ls []) := by
  induction n with
  | zero => intro x1 x2 x3 x4 x5 x6 I A H locs ls hf; cases hf
  | succ n ih => intro x1 x2 x3 x4 x5 x6 I A H locs ls hf hM hl; exact ws_readTag_175 X hret (self175 := f_readTag_175 n) ih hf hM hl
noncomputable def f_readTag_71s (self71 : Int32 → Int32 → Int32 → Int32 → Int32 → (Nat → Int32) → (Nat → Nat → Int32) → Option (Int32 × MS)) (x1 : Int32) (x2 : Int32) (x3 : Int32) (x4 : Int32) (x5 : Int32) (I : Nat → Int32) (A : Nat → Nat → Int32) : Option (Int32 × MS) :=
  m_cl (f_look  I A) (fun r1 Ic1 Ac1 =>
  m_cl (f_isLetter r1 Ic1 Ac1) (fun r2 Ic2 Ac2 =>
  m_if (r2 = 0) (
  m_cl (f_look  Ic2 Ac2) (fun r3 Ic3 Ac3 =>
  m_cl (f_isDigit r3 Ic3 Ac3) (fun r4 Ic4 Ac4 =>
  m_if (r4 = 0) (
  m_cl (f_blanks  Ic4 Ac4) (fun r5 Ic5 Ac5 =>
  m_cl (f_look  Ic5 Ac5) (fun r6 Ic6 Ac6 =>
  m_if (r6 = (34 : Int32)) (
  m_bnd ((Ic6 37) + (1 : Int32)) (fun v7 =>
  m_bnd (upd Ic6 37 v7) (fun I8 =>
  f_readTag_175 mFuel x1 x2 x3 x4 x5 (0 : Int32) I8 Ac6))
  ) (
  m_cl (f_fault (1 : Int32) (Ic6 37) Ic6 Ac6) (fun r9 Ic9 Ac9 =>
  some (r9, (Ic9, Ac9)))
  )))
  ) (
  f_readTag_91 self71 x1 x2 x3 x4 x5 Ic4 Ac4
  )))
  ) (
  f_readTag_91 self71 x1 x2 x3 x4 x5 Ic2 Ac2
  )))

set_option maxRecDepth 100000 in
set_option maxHeartbeats 4000000 in
theorem ws_readTag_71 {p : Program} {l : Launch} {e : Env} {s : State} {m : MethodId} {args : Array Value} {below : List Frame} {meth : Method} {c : Code} {Q : State → Prop} {D : va_G} {cy ci : ClassId} {h : Nat → Nat} {A0 : Nat → Prop} {o : Int32 × MS} (X : CallFix p m c cX12_readTag 7 s args wsX12_readTag RX12) (hret : mRi p l e ({ frames := 6, cells := 0, slots := 0, locals := 146 } : Room) s m args below meth c Q cX12_readTag D cy ci h A0 .int o) {self71 : Int32 → Int32 → Int32 → Int32 → Int32 → (Nat → Int32) → (Nat → Nat → Int32) → Option (Int32 × MS)} (hself71 : ∀ (x1 : Int32) (x2 : Int32) (x3 : Int32) (x4 : Int32) (x5 : Int32) (I : Nat → Int32) (A : Nat → Nat → Int32) (H : Heap) (locs : List Loc) (ls : Array Slot), self71 x1 x2 x3 x4 x5 I A = some o → mH D cy ci h A0 s H locs I A → lv_has ls 7 [(0, .ref (h 0)), (1, .int x1), (2, .int x2), (3, .int x3), (4, .int x4), (5, .int x5)] → W p l e ({ frames := 6, cells := 0, slots := 0, locals := 146 } : Room) s m args below meth c H locs 0 0 Q (F0 m 71 ls [])) {x1 : Int32} {x2 : Int32} {x3 : Int32} {x4 : Int32} {x5 : Int32} {I : Nat → Int32} {A : Nat → Nat → Int32} {H : Heap} {locs : List Loc} {ls : Array Slot} (hf : f_readTag_71s self71 x1 x2 x3 x4 x5 I A = some o) (hM : mH D cy ci h A0 s H locs I A) (hl : lv_has ls 7 [(0, .ref (h 0)), (1, .int x1), (2, .int x2), (3, .int x3), (4, .int x4), (5, .int x5)]) : W p l e ({ frames := 6, cells := 0, slots := 0, locals := 146 } : Room) s m args below meth c H locs 0 0 Q (F0 m 71 ls []) := by
  obtain ⟨hx, hb, hml, hown, hts⟩ := id X
  unfold f_readTag_71s at hf
  refine lv_aload_n hx hb dX12_readTag_71 rfl (lv_at hl 0 rfl) ?_
  obtain ⟨o1, ho, hf⟩ := m_clE hf
  refine m_callVi X hM (c_look ho) gX12_readTag_X12_look rfl ⟨rfl, rfl⟩ hd_look ⟨Nat.le_of_ble_eq_true rfl, Nat.le_of_ble_eq_true rfl⟩ rfl hl.1 rfl (Nat.le_of_ble_eq_true rfl) dX12_readTag_72 (fun H locs hM => ?_)
  clear ho
  obtain ⟨o2, ho, hf⟩ := m_clE hf
  refine m_callSi X hM (c_isLetter ho) gX12_readTag_X12_isLetter rfl ⟨rfl, rfl⟩ hd_isLetter ⟨Nat.le_of_ble_eq_true rfl, Nat.le_of_ble_eq_true rfl⟩ rfl hl.1 rfl (Nat.le_of_ble_eq_true rfl) dX12_readTag_75 (fun H locs hM => ?_)
  clear ho
  refine lv_if_ne (tgt := 91) hx hb dX12_readTag_78 (by decide) (fun cc1 => ?_) (fun cc1 => ?_)
  · replace hf := m_ifF hf cc1
    exact w_readTag_91 X hret hself71 hf hM (lv_sub hl [0, 1, 2, 3, 4, 5] rfl)
  · replace hf := m_ifT hf cc1
    refine lv_aload_n hx hb dX12_readTag_81 rfl (lv_at hl 0 rfl) ?_
    obtain ⟨o3, ho, hf⟩ := m_clE hf
    refine m_callVi X hM (c_look ho) gX12_readTag_X12_look rfl ⟨rfl, rfl⟩ hd_look ⟨Nat.le_of_ble_eq_true rfl, Nat.le_of_ble_eq_true rfl⟩ rfl hl.1 rfl (Nat.le_of_ble_eq_true rfl) dX12_readTag_82 (fun H locs hM => ?_)
    clear ho
    obtain ⟨o4, ho, hf⟩ := m_clE hf
    refine m_callSi X hM (c_isDigit ho) gX12_readTag_X12_isDigit rfl ⟨rfl, rfl⟩ hd_isDigit ⟨Nat.le_of_ble_eq_true rfl, Nat.le_of_ble_eq_true rfl⟩ rfl hl.1 rfl (Nat.le_of_ble_eq_true rfl) dX12_readTag_85 (fun H locs hM => ?_)
    clear ho
    refine lv_if_eq (tgt := 140) hx hb dX12_readTag_88 (by decide) (fun cc1 => ?_) (fun cc1 => ?_)
    · replace hf := m_ifT hf cc1
      refine lv_aload_n hx hb dX12_readTag_140 rfl (lv_at hl 0 rfl) ?_
      obtain ⟨o5, ho, hf⟩ := m_clE hf
      refine m_callVv X hM (c_blanks ho) gX12_readTag_X12_blanks rfl ⟨rfl, rfl⟩ hd_blanks ⟨Nat.le_of_ble_eq_true rfl, Nat.le_of_ble_eq_true rfl⟩ rfl hl.1 rfl (Nat.le_of_ble_eq_true rfl) dX12_readTag_141 (fun H locs hM => ?_)
      clear ho
      refine lv_aload_n hx hb dX12_readTag_144 rfl (lv_at hl 0 rfl) ?_
      obtain ⟨o6, ho, hf⟩ := m_clE hf
      refine m_callVi X hM (c_look ho) gX12_readTag_X12_look rfl ⟨rfl, rfl⟩ hd_look ⟨Nat.le_of_ble_eq_true rfl, Nat.le_of_ble_eq_true rfl⟩ rfl hl.1 rfl (Nat.le_of_ble_eq_true rfl) dX12_readTag_145 (fun H locs hM => ?_)
      clear ho
      refine lv_bipush (v := (34 : Int32)) hx hb dX12_readTag_148 (by decide) ?_
      refine lv_icmp_eq (tgt := 162) hx hb dX12_readTag_150 (by decide) (fun cc1 => ?_) (fun cc1 => ?_)
      · replace hf := m_ifT hf cc1
        refine lv_aload_n hx hb dX12_readTag_162 rfl (lv_at hl 0 rfl) ?_
        refine lv_dup hx hb dX12_readTag_163 rfl ?_
        refine m_get (v := .int (o6.2.1 37)) X hw_readTag hM 37 (by decide) fl_readTag_37 rfl dX12_readTag_164 ?_
        refine lv_iconst (v := (1 : Int32)) hx hb dX12_readTag_167 (by decide) ?_
        refine lv_iadd hx hb dX12_readTag_168 ?_
        obtain ⟨v7, ev, hf⟩ := m_bndE hf
        refine m_top ev ?_
        clear ev
        refine m_put X hw_readTag hM 37 (by decide) fl_readTag_37 mi_37 rfl (tyX12_ok 37 (by decide)) dX12_readTag_169 (fun H locs hM => ?_)
        obtain ⟨I8, ev, hf⟩ := m_bndE hf
        replace hM := m_hI hM ev
        clear ev
        refine lv_iconst (v := (0 : Int32)) hx hb dX12_readTag_172 (by decide) ?_
        refine lv_istore (lv' := [(6, .int (0 : Int32)), (0, .ref (h 0)), (1, .int x1), (2, .int x2), (3, .int x3), (4, .int x4), (5, .int x5)]) hx hb dX12_readTag_173 hl (by decide) rfl (fun ls hl => ?_)
        exact w_readTag_175 X hret _ _ _ _ _ _ _ _ _ _ _ _ hf hM (lv_sub hl [1, 2, 3, 4, 5, 6, 0] rfl)
      · replace hf := m_ifF hf cc1
        refine lv_iconst (v := (1 : Int32)) hx hb dX12_readTag_153 (by decide) ?_
        refine lv_aload_n hx hb dX12_readTag_154 rfl (lv_at hl 0 rfl) ?_
        refine m_get (v := .int (o6.2.1 37)) X hw_readTag hM 37 (by decide) fl_readTag_37 rfl dX12_readTag_155 ?_
        obtain ⟨o9, ho, hf⟩ := m_clE hf
        refine m_callSi X hM (c_fault ho) gX12_readTag_X12_fault rfl ⟨rfl, rfl⟩ hd_fault ⟨Nat.le_of_ble_eq_true rfl, Nat.le_of_ble_eq_true rfl⟩ rfl hl.1 rfl (Nat.le_of_ble_eq_true rfl) dX12_readTag_158 (fun H locs hM => ?_)
        clear ho
        cases hf
        exact hret H locs _ ls hM rfl dX12_readTag_161
    · replace hf := m_ifF hf cc1
      exact w_readTag_91 X hret hself71 hf hM (lv_sub hl [0, 1, 2, 3, 4, 5] rfl)
noncomputable def f_readTag_71 : Nat → Int32 → Int32 → Int32 → Int32 → Int32 → (Nat → Int32) → (Nat → Nat → Int32) → Option (Int32 × MS)
  | 0 => fun _ _ _ _ _ _ _ => none
  | n + 1 => f_readTag_71s (f_readTag_71 n)
theorem w_readTag_71 {p : Program} {l : Launch} {e : Env} {s : State} {m : MethodId} {args : Array Value} {below : List Frame} {meth : Method} {c : Code} {Q : State → Prop} {D : va_G} {cy ci : ClassId} {h : Nat → Nat} {A0 : Nat → Prop} {o : Int32 × MS} (X : CallFix p m c cX12_readTag 7 s args wsX12_readTag RX12) (hret : mRi p l e ({ frames := 6, cells := 0, slots := 0, locals := 146 } : Room) s m args below meth c Q cX12_readTag D cy ci h A0 .int o) (n : Nat) : ∀ (x1 : Int32) (x2 : Int32) (x3 : Int32) (x4 : Int32) (x5 : Int32) (I : Nat → Int32) (A : Nat → Nat → Int32) (H : Heap) (locs : List Loc) (ls : Array Slot), f_readTag_71 n x1 x2 x3 x4 x5 I A = some o → mH D cy ci h A0 s H locs I A → lv_has ls 7 [(0, .ref (h 0)), (1, .int x1), (2, .int x2), (3, .int x3), (4, .int x4), (5, .int x5)] → W p l e ({ frames := 6, cells := 0, slots := 0, locals := 146 } : Room) s m args below meth c H locs 0 0 Q (F0 m 71 ls []) := by
  induction n with
  | zero => intro x1 x2 x3 x4 x5 I A H locs ls hf; cases hf
  | succ n ih => intro x1 x2 x3 x4 x5 I A H locs ls hf hM hl; exact ws_readTag_71 X hret (self71 := f_readTag_71 n) ih hf hM hl
noncomputable def f_readTag_23 (x1 : Int32) (x2 : Int32) (x3 : Int32) (t0 : Int32) (I : Nat → Int32) (A : Nat → Nat → Int32) : Option (Int32 × MS) :=
  m_bnd ((I 37) + (1 : Int32)) (fun v1 =>
  m_bnd (upd I 37 v1) (fun I2 =>
  m_cl (f_blanks  I2 A) (fun r3 Ic3 Ac3 =>
  m_cl (f_look  Ic3 Ac3) (fun r4 Ic4 Ac4 =>
  m_cl (f_isLetter r4 Ic4 Ac4) (fun r5 Ic5 Ac5 =>
  m_if (r5 = 0) (
  m_cl (f_look  Ic5 Ac5) (fun r6 Ic6 Ac6 =>
  m_cl (f_isDigit r6 Ic6 Ac6) (fun r7 Ic7 Ac7 =>
  m_if (r7 = 0) (
  m_cl (f_fault (1 : Int32) (Ic7 37) Ic7 Ac7) (fun r8 Ic8 Ac8 =>
  some (r8, (Ic8, Ac8)))
  ) (
  f_readTag_71 mFuel x1 x2 x3 t0 (0 : Int32) Ic7 Ac7
  )))
  ) (
  f_readTag_71 mFuel x1 x2 x3 t0 (0 : Int32) Ic5 Ac5
  ))))))

set_option maxRecDepth 100000 in
set_option maxHeartbeats 4000000 in
theorem w_readTag_23 {p : Program} {l : Launch} {e : Env} {s : State} {m : MethodId} {args : Array Value} {below : List Frame} {meth : Method} {c : Code} {Q : State → Prop} {D : va_G} {cy ci : ClassId} {h : Nat → Nat} {A0 : Nat → Prop} {o : Int32 × MS} (X : CallFix p m c cX12_readTag 7 s args wsX12_readTag RX12) (hret : mRi p l e ({ frames := 6, cells := 0, slots := 0, locals := 146 } : Room) s m args below meth c Q cX12_readTag D cy ci h A0 .int o) {x1 : Int32} {x2 : Int32} {x3 : Int32} {t0 : Int32} {I : Nat → Int32} {A : Nat → Nat → Int32} {H : Heap} {locs : List Loc} {ls : Array Slot} (hf : f_readTag_23 x1 x2 x3 t0 I A = some o) (hM : mH D cy ci h A0 s H locs I A) (hl : lv_has ls 7 [(0, .ref (h 0)), (1, .int x1), (2, .int x2), (3, .int x3)]) : W p l e ({ frames := 6, cells := 0, slots := 0, locals := 146 } : Room) s m args below meth c H locs 0 0 Q (F0 m 23 ls [.int t0]) := by
  obtain ⟨hx, hb, hml, hown, hts⟩ := id X
  unfold f_readTag_23 at hf
  refine lv_istore (lv' := [(4, .int t0), (0, .ref (h 0)), (1, .int x1), (2, .int x2), (3, .int x3)]) hx hb dX12_readTag_23 hl (by decide) rfl (fun ls hl => ?_)
  refine lv_iconst (v := (0 : Int32)) hx hb dX12_readTag_25 (by decide) ?_
  refine lv_istore (lv' := [(5, .int (0 : Int32)), (4, .int t0), (0, .ref (h 0)), (1, .int x1), (2, .int x2), (3, .int x3)]) hx hb dX12_readTag_26 hl (by decide) rfl (fun ls hl => ?_)
  refine lv_aload_n hx hb dX12_readTag_28 rfl (lv_at hl 2 rfl) ?_
  refine lv_dup hx hb dX12_readTag_29 rfl ?_
  refine m_get (v := .int (I 37)) X hw_readTag hM 37 (by decide) fl_readTag_37 rfl dX12_readTag_30 ?_
  refine lv_iconst (v := (1 : Int32)) hx hb dX12_readTag_33 (by decide) ?_
  refine lv_iadd hx hb dX12_readTag_34 ?_
  obtain ⟨v1, ev, hf⟩ := m_bndE hf
  refine m_top ev ?_
  clear ev
  refine m_put X hw_readTag hM 37 (by decide) fl_readTag_37 mi_37 rfl (tyX12_ok 37 (by decide)) dX12_readTag_35 (fun H locs hM => ?_)
  obtain ⟨I2, ev, hf⟩ := m_bndE hf
  replace hM := m_hI hM ev
  clear ev
  refine lv_aload_n hx hb dX12_readTag_38 rfl (lv_at hl 2 rfl) ?_
  obtain ⟨o3, ho, hf⟩ := m_clE hf
  refine m_callVv X hM (c_blanks ho) gX12_readTag_X12_blanks rfl ⟨rfl, rfl⟩ hd_blanks ⟨Nat.le_of_ble_eq_true rfl, Nat.le_of_ble_eq_true rfl⟩ rfl hl.1 rfl (Nat.le_of_ble_eq_true rfl) dX12_readTag_39 (fun H locs hM => ?_)
  clear ho
  refine lv_aload_n hx hb dX12_readTag_42 rfl (lv_at hl 2 rfl) ?_
  obtain ⟨o4, ho, hf⟩ := m_clE hf
  refine m_callVi X hM (c_look ho) gX12_readTag_X12_look rfl ⟨rfl, rfl⟩ hd_look ⟨Nat.le_of_ble_eq_true rfl, Nat.le_of_ble_eq_true rfl⟩ rfl hl.1 rfl (Nat.le_of_ble_eq_true rfl) dX12_readTag_43 (fun H locs hM => ?_)
  clear ho
  obtain ⟨o5, ho, hf⟩ := m_clE hf
  refine m_callSi X hM (c_isLetter ho) gX12_readTag_X12_isLetter rfl ⟨rfl, rfl⟩ hd_isLetter ⟨Nat.le_of_ble_eq_true rfl, Nat.le_of_ble_eq_true rfl⟩ rfl hl.1 rfl (Nat.le_of_ble_eq_true rfl) dX12_readTag_46 (fun H locs hM => ?_)
  clear ho
  refine lv_if_ne (tgt := 71) hx hb dX12_readTag_49 (by decide) (fun cc1 => ?_) (fun cc1 => ?_)
  · replace hf := m_ifF hf cc1
    exact w_readTag_71 X hret _ _ _ _ _ _ _ _ _ _ _ hf hM (lv_sub hl [2, 3, 4, 5, 1, 0] rfl)
  · replace hf := m_ifT hf cc1
    refine lv_aload_n hx hb dX12_readTag_52 rfl (lv_at hl 2 rfl) ?_
    obtain ⟨o6, ho, hf⟩ := m_clE hf
    refine m_callVi X hM (c_look ho) gX12_readTag_X12_look rfl ⟨rfl, rfl⟩ hd_look ⟨Nat.le_of_ble_eq_true rfl, Nat.le_of_ble_eq_true rfl⟩ rfl hl.1 rfl (Nat.le_of_ble_eq_true rfl) dX12_readTag_53 (fun H locs hM => ?_)
    clear ho
    obtain ⟨o7, ho, hf⟩ := m_clE hf
    refine m_callSi X hM (c_isDigit ho) gX12_readTag_X12_isDigit rfl ⟨rfl, rfl⟩ hd_isDigit ⟨Nat.le_of_ble_eq_true rfl, Nat.le_of_ble_eq_true rfl⟩ rfl hl.1 rfl (Nat.le_of_ble_eq_true rfl) dX12_readTag_56 (fun H locs hM => ?_)
    clear ho
    refine lv_if_ne (tgt := 71) hx hb dX12_readTag_59 (by decide) (fun cc1 => ?_) (fun cc1 => ?_)
    · replace hf := m_ifF hf cc1
      exact w_readTag_71 X hret _ _ _ _ _ _ _ _ _ _ _ hf hM (lv_sub hl [2, 3, 4, 5, 1, 0] rfl)
    · replace hf := m_ifT hf cc1
      refine lv_iconst (v := (1 : Int32)) hx hb dX12_readTag_62 (by decide) ?_
      refine lv_aload_n hx hb dX12_readTag_63 rfl (lv_at hl 2 rfl) ?_
      refine m_get (v := .int (o7.2.1 37)) X hw_readTag hM 37 (by decide) fl_readTag_37 rfl dX12_readTag_64 ?_
      obtain ⟨o8, ho, hf⟩ := m_clE hf
      refine m_callSi X hM (c_fault ho) gX12_readTag_X12_fault rfl ⟨rfl, rfl⟩ hd_fault ⟨Nat.le_of_ble_eq_true rfl, Nat.le_of_ble_eq_true rfl⟩ rfl hl.1 rfl (Nat.le_of_ble_eq_true rfl) dX12_readTag_67 (fun H locs hM => ?_)
      clear ho
      cases hf
      exact hret H locs _ ls hM rfl dX12_readTag_70
noncomputable def f_readTag_0 (x1 : Int32) (I : Nat → Int32) (A : Nat → Nat → Int32) : Option (Int32 × MS) :=
  m_chk (¬ (x1 < 0 ∨ 2 ≤ (x1).toNatClampNeg)) (
  m_bnd (A 18 (x1).toNatClampNeg) (fun v1 =>
  m_if (v1 = (8 : Int32)) (
  f_readTag_23 x1 (I 37) v1 (1 : Int32) I A
  ) (
  f_readTag_23 x1 (I 37) v1 (0 : Int32) I A
  )))

set_option maxRecDepth 100000 in
set_option maxHeartbeats 4000000 in
theorem w_readTag_0 {p : Program} {l : Launch} {e : Env} {s : State} {m : MethodId} {args : Array Value} {below : List Frame} {meth : Method} {c : Code} {Q : State → Prop} {D : va_G} {cy ci : ClassId} {h : Nat → Nat} {A0 : Nat → Prop} {o : Int32 × MS} (X : CallFix p m c cX12_readTag 7 s args wsX12_readTag RX12) (hret : mRi p l e ({ frames := 6, cells := 0, slots := 0, locals := 146 } : Room) s m args below meth c Q cX12_readTag D cy ci h A0 .int o) {x1 : Int32} {I : Nat → Int32} {A : Nat → Nat → Int32} {H : Heap} {locs : List Loc} {ls : Array Slot} (hf : f_readTag_0 x1 I A = some o) (hM : mH D cy ci h A0 s H locs I A) (hl : lv_has ls 7 [(0, .ref (h 0)), (1, .int x1)]) : W p l e ({ frames := 6, cells := 0, slots := 0, locals := 146 } : Room) s m args below meth c H locs 0 0 Q (F0 m 0 ls []) := by
  obtain ⟨hx, hb, hml, hown, hts⟩ := id X
  unfold f_readTag_0 at hf
  refine lv_aload_n hx hb dX12_readTag_0 rfl (lv_at hl 0 rfl) ?_
  refine m_get (v := .int (I 37)) X hw_readTag hM 37 (by decide) fl_readTag_37 rfl dX12_readTag_1 ?_
  refine lv_istore_n (lv' := [(2, .int (I 37)), (0, .ref (h 0)), (1, .int x1)]) hx hb dX12_readTag_4 rfl hl (by decide) rfl (fun ls hl => ?_)
  refine lv_aload_n hx hb dX12_readTag_5 rfl (lv_at hl 1 rfl) ?_
  refine m_get (v := .ref (h 18)) X hw_readTag hM 18 (by decide) fl_readTag_18 rfl dX12_readTag_6 ?_
  refine lv_iload_n hx hb dX12_readTag_9 rfl (lv_at hl 2 rfl) ?_
  obtain ⟨cd, hf⟩ := m_chkE hf
  refine m_iald X hM 18 14 2 rfl cd dX12_readTag_10 ?_
  clear cd
  obtain ⟨v1, ev, hf⟩ := m_bndE hf
  refine m_top ev ?_
  clear ev
  refine lv_istore_n (lv' := [(3, .int v1), (2, .int (I 37)), (0, .ref (h 0)), (1, .int x1)]) hx hb dX12_readTag_11 rfl hl (by decide) rfl (fun ls hl => ?_)
  refine lv_iload_n hx hb dX12_readTag_12 rfl (lv_at hl 0 rfl) ?_
  refine lv_bipush (v := (8 : Int32)) hx hb dX12_readTag_13 (by decide) ?_
  refine lv_icmp_ne (tgt := 22) hx hb dX12_readTag_15 (by decide) (fun cc1 => ?_) (fun cc1 => ?_)
  · replace hf := m_ifF hf cc1
    refine lv_iconst (v := (0 : Int32)) hx hb dX12_readTag_22 (by decide) ?_
    exact w_readTag_23 X hret hf hM (lv_sub hl [2, 3, 1, 0] rfl)
  · replace hf := m_ifT hf cc1
    refine lv_iconst (v := (1 : Int32)) hx hb dX12_readTag_18 (by decide) ?_
    refine lv_goto (tgt := 23) hx hb dX12_readTag_19 (by decide) ?_
    exact w_readTag_23 X hret hf hM (lv_sub hl [2, 3, 1, 0] rfl)
noncomputable def f_readTag (x1 : Int32) (I : Nat → Int32) (A : Nat → Nat → Int32) : Option (Int32 × MS) := f_readTag_0 x1 I A
theorem c_readTag {l : Launch} {D : va_G} {cy ci : ClassId} {h : Nat → Nat} {x1 : Int32} {I : Nat → Int32} {A : Nat → Nat → Int32} {o : Int32 × MS} (hf : f_readTag x1 I A = some o) : mMi l yX12_readTag wsX12_readTag ({ frames := 6, cells := 0, slots := 0, locals := 146 } : Room) [.ref (h 0), .int x1] D cy ci h I A o :=
  m_entryI (cc := cX12_readTag) (maxL := 7) (by decide) rfl rfl (Nat.le_of_ble_eq_true rfl) (fun p e s m args below meth c A0 Q H locs ls X hret hM hl => w_readTag_0 X hret hf hM (lv_sub hl [0, 1] rfl))
theorem hw_readRemarks : ∀ w ∈ wsX120, w ∈ wsX12_readRemarks := by decide +kernel
theorem fl_readRemarks_1 : Cond.fieldLink RX12 270 "MoveTextsModel" "typed" "I" ∈ wsX12_readRemarks := by decide +kernel
theorem fl_readRemarks_2 : Cond.fieldLink RX12 7 "MoveTextsModel" "text" "[C" ∈ wsX12_readRemarks := by decide +kernel
theorem fl_readRemarks_14 : Cond.fieldLink RX12 39 "MoveTextsModel" "remarkSize" "[I" ∈ wsX12_readRemarks := by decide +kernel
theorem fl_readRemarks_15 : Cond.fieldLink RX12 43 "MoveTextsModel" "remarks" "[C" ∈ wsX12_readRemarks := by decide +kernel
theorem fl_readRemarks_37 : Cond.fieldLink RX12 267 "MoveTextsModel" "at" "I" ∈ wsX12_readRemarks := by decide +kernel
theorem hd_readRemarks : yX12_readRemarks.cls = RX12 ∧ yX12_readRemarks.cls ≠ "java/lang/invoke/MethodHandle" ∧ yX12_readRemarks.cls ≠ "java/lang/invoke/VarHandle" ∧ (parseMethodDescriptor yX12_readRemarks.desc).map (fun d => d.parameters.length) = some 2 := by decide +kernel
noncomputable def f_readRemarks_344 (self4 : Int32 → Int32 → (Nat → Int32) → (Nat → Nat → Int32) → Option (Int32 × MS)) (x1 : Int32) (x2 : Int32) (t0 : Int32) (I : Nat → Int32) (A : Nat → Nat → Int32) : Option (Int32 × MS) :=
  m_bnd (upd I 37 t0) (fun I1 =>
  m_cl (f_blanks  I1 A) (fun r2 Ic2 Ac2 =>
  self4 x1 x2 Ic2 Ac2))

set_option maxRecDepth 100000 in
set_option maxHeartbeats 4000000 in
theorem w_readRemarks_344 {p : Program} {l : Launch} {e : Env} {s : State} {m : MethodId} {args : Array Value} {below : List Frame} {meth : Method} {c : Code} {Q : State → Prop} {D : va_G} {cy ci : ClassId} {h : Nat → Nat} {A0 : Nat → Prop} {o : Int32 × MS} (X : CallFix p m c cX12_readRemarks 11 s args wsX12_readRemarks RX12) (hret : mRi p l e ({ frames := 1, cells := 0, slots := 0, locals := 21 } : Room) s m args below meth c Q cX12_readRemarks D cy ci h A0 .int o) {self4 : Int32 → Int32 → (Nat → Int32) → (Nat → Nat → Int32) → Option (Int32 × MS)} (hself4 : ∀ (x1 : Int32) (x2 : Int32) (I : Nat → Int32) (A : Nat → Nat → Int32) (H : Heap) (locs : List Loc) (ls : Array Slot), self4 x1 x2 I A = some o → mH D cy ci h A0 s H locs I A → lv_has ls 11 [(0, .ref (h 0)), (1, .int x1), (2, .int x2)] → W p l e ({ frames := 1, cells := 0, slots := 0, locals := 21 } : Room) s m args below meth c H locs 0 0 Q (F0 m 4 ls [])) {x1 : Int32} {x2 : Int32} {t0 : Int32} {I : Nat → Int32} {A : Nat → Nat → Int32} {H : Heap} {locs : List Loc} {ls : Array Slot} (hf : f_readRemarks_344 self4 x1 x2 t0 I A = some o) (hM : mH D cy ci h A0 s H locs I A) (hl : lv_has ls 11 [(0, .ref (h 0)), (1, .int x1), (2, .int x2)]) : W p l e ({ frames := 1, cells := 0, slots := 0, locals := 21 } : Room) s m args below meth c H locs 0 0 Q (F0 m 344 ls [.int t0, .ref (h 0)]) := by
  obtain ⟨hx, hb, hml, hown, hts⟩ := id X
  unfold f_readRemarks_344 at hf
  refine m_put X hw_readRemarks hM 37 (by decide) fl_readRemarks_37 mi_37 rfl (tyX12_ok 37 (by decide)) dX12_readRemarks_344 (fun H locs hM => ?_)
  obtain ⟨I1, ev, hf⟩ := m_bndE hf
  replace hM := m_hI hM ev
  clear ev
  refine lv_aload_n hx hb dX12_readRemarks_347 rfl (lv_at hl 0 rfl) ?_
  obtain ⟨o2, ho, hf⟩ := m_clE hf
  refine m_callVv X hM (c_blanks ho) gX12_readRemarks_X12_blanks rfl ⟨rfl, rfl⟩ hd_blanks ⟨Nat.le_of_ble_eq_true rfl, Nat.le_of_ble_eq_true rfl⟩ rfl hl.1 rfl (Nat.le_of_ble_eq_true rfl) dX12_readRemarks_348 (fun H locs hM => ?_)
  clear ho
  refine lv_goto (tgt := 4) hx hb dX12_readRemarks_351 (by decide) ?_
  exact hself4 _ _ _ _ _ _ _ hf hM (lv_sub hl [0, 1, 2] rfl)
noncomputable def f_readRemarks_303 (self4 : Int32 → Int32 → (Nat → Int32) → (Nat → Nat → Int32) → Option (Int32 × MS)) (self247 : Int32 → Int32 → Int32 → Int32 → Int32 → Int32 → Int32 → Int32 → Int32 → (Nat → Int32) → (Nat → Nat → Int32) → Option (Int32 × MS)) (x1 : Int32) (x2 : Int32) (x4 : Int32) (x5 : Int32) (x6 : Int32) (x7 : Int32) (x8 : Int32) (x9 : Int32) (x10 : Int32) (t0 : Int32) (t1 : Int32) (I : Nat → Int32) (A : Nat → Nat → Int32) : Option (Int32 × MS) :=
  m_chk (¬ (t1 < 0 ∨ 120400 ≤ (t1).toNatClampNeg)) (
  m_bnd (va_up A 15 (upd (A 15) (t1).toNatClampNeg (vp_nar .char t0))) (fun A1 =>
  m_bnd (x10 + (1 : Int32)) (fun v2 =>
  self247 x1 x2 x4 x5 x6 x7 x8 x9 v2 I A1)))

set_option maxRecDepth 100000 in
set_option maxHeartbeats 4000000 in
theorem w_readRemarks_303 {p : Program} {l : Launch} {e : Env} {s : State} {m : MethodId} {args : Array Value} {below : List Frame} {meth : Method} {c : Code} {Q : State → Prop} {D : va_G} {cy ci : ClassId} {h : Nat → Nat} {A0 : Nat → Prop} {o : Int32 × MS} (X : CallFix p m c cX12_readRemarks 11 s args wsX12_readRemarks RX12) (hret : mRi p l e ({ frames := 1, cells := 0, slots := 0, locals := 21 } : Room) s m args below meth c Q cX12_readRemarks D cy ci h A0 .int o) {self4 : Int32 → Int32 → (Nat → Int32) → (Nat → Nat → Int32) → Option (Int32 × MS)} (hself4 : ∀ (x1 : Int32) (x2 : Int32) (I : Nat → Int32) (A : Nat → Nat → Int32) (H : Heap) (locs : List Loc) (ls : Array Slot), self4 x1 x2 I A = some o → mH D cy ci h A0 s H locs I A → lv_has ls 11 [(0, .ref (h 0)), (1, .int x1), (2, .int x2)] → W p l e ({ frames := 1, cells := 0, slots := 0, locals := 21 } : Room) s m args below meth c H locs 0 0 Q (F0 m 4 ls [])) {self247 : Int32 → Int32 → Int32 → Int32 → Int32 → Int32 → Int32 → Int32 → Int32 → (Nat → Int32) → (Nat → Nat → Int32) → Option (Int32 × MS)} (hself247 : ∀ (x1 : Int32) (x2 : Int32) (x4 : Int32) (x5 : Int32) (x6 : Int32) (x7 : Int32) (x8 : Int32) (x9 : Int32) (x10 : Int32) (I : Nat → Int32) (A : Nat → Nat → Int32) (H : Heap) (locs : List Loc) (ls : Array Slot), self247 x1 x2 x4 x5 x6 x7 x8 x9 x10 I A = some o → mH D cy ci h A0 s H locs I A → lv_has ls 11 [(0, .ref (h 0)), (1, .int x1), (2, .int x2), (4, .int x4), (5, .int x5), (6, .int x6), (7, .int x7), (8, .int x8), (9, .int x9), (10, .int x10)] → W p l e ({ frames := 1, cells := 0, slots := 0, locals := 21 } : Room) s m args below meth c H locs 0 0 Q (F0 m 247 ls [])) {x1 : Int32} {x2 : Int32} {x4 : Int32} {x5 : Int32} {x6 : Int32} {x7 : Int32} {x8 : Int32} {x9 : Int32} {x10 : Int32} {t0 : Int32} {t1 : Int32} {I : Nat → Int32} {A : Nat → Nat → Int32} {H : Heap} {locs : List Loc} {ls : Array Slot} (hf : f_readRemarks_303 self4 self247 x1 x2 x4 x5 x6 x7 x8 x9 x10 t0 t1 I A = some o) (hM : mH D cy ci h A0 s H locs I A) (hl : lv_has ls 11 [(0, .ref (h 0)), (1, .int x1), (2, .int x2), (4, .int x4), (5, .int x5), (6, .int x6), (7, .int x7), (8, .int x8), (9, .int x9), (10, .int x10)]) : W p l e ({ frames := 1, cells := 0, slots := 0, locals := 21 } : Room) s m args below meth c H locs 0 0 Q (F0 m 303 ls [.int t0, .int t1, .ref (h 15)]) := by
  obtain ⟨hx, hb, hml, hown, hts⟩ := id X
  unfold f_readRemarks_303 at hf
  obtain ⟨cd, hf⟩ := m_chkE hf
  refine m_cast X hM 15 11 120400 rfl ma_15 cd dX12_readRemarks_303 (fun H locs hM => ?_)
  clear cd
  obtain ⟨A1, ev, hf⟩ := m_bndE hf
  replace hM := m_hA hM ev
  clear ev
  obtain ⟨v2, ev, hf⟩ := m_bndE hf
  refine lv_iinc (v := v2) (lv' := [(10, .int v2), (0, .ref (h 0)), (1, .int x1), (2, .int x2), (4, .int x4), (5, .int x5), (6, .int x6), (7, .int x7), (8, .int x8), (9, .int x9)]) hx hb dX12_readRemarks_304 hl (k := 9) rfl (by rw [ev]; rfl) (by decide) rfl (fun ls hl => ?_)
  clear ev
  refine lv_goto (tgt := 247) hx hb dX12_readRemarks_307 (by decide) ?_
  exact hself247 _ _ _ _ _ _ _ _ _ _ _ _ _ _ hf hM (lv_sub hl [1, 2, 3, 4, 5, 6, 7, 8, 9, 0] rfl)
noncomputable def f_readRemarks_247s (self4 : Int32 → Int32 → (Nat → Int32) → (Nat → Nat → Int32) → Option (Int32 × MS)) (self247 : Int32 → Int32 → Int32 → Int32 → Int32 → Int32 → Int32 → Int32 → Int32 → (Nat → Int32) → (Nat → Nat → Int32) → Option (Int32 × MS)) (x1 : Int32) (x2 : Int32) (x4 : Int32) (x5 : Int32) (x6 : Int32) (x7 : Int32) (x8 : Int32) (x9 : Int32) (x10 : Int32) (I : Nat → Int32) (A : Nat → Nat → Int32) : Option (Int32 × MS) :=
  m_if (x6 ≤ x10) (
  m_bnd (x8 + x9) (fun v1 =>
  m_bnd (v1 + x6) (fun v2 =>
  m_chk (¬ (x7 < 0 ∨ 602 ≤ (x7).toNatClampNeg)) (
  m_bnd (va_up A 14 (upd (A 14) (x7).toNatClampNeg v2)) (fun A3 =>
  m_if (x4 = 0) (
  f_readRemarks_344 self4 x1 x2 (I 37) I A3
  ) (
  m_bnd ((I 37) + (1 : Int32)) (fun v4 =>
  f_readRemarks_344 self4 x1 x2 v4 I A3)
  )))))
  ) (
  m_bnd ((200 : Int32) * x7) (fun v5 =>
  m_bnd (v5 + x8) (fun v6 =>
  m_bnd (v6 + x9) (fun v7 =>
  m_bnd (v7 + x10) (fun v8 =>
  m_bnd (x5 + x10) (fun v9 =>
  m_chk (¬ (v9 < 0 ∨ 2000 ≤ (v9).toNatClampNeg)) (
  m_bnd (A 2 (v9).toNatClampNeg) (fun v10 =>
  m_if (v10 = (10 : Int32)) (
  f_readRemarks_303 self4 self247 x1 x2 x4 x5 x6 x7 x8 x9 x10 (32 : Int32) v8 I A
  ) (
  m_bnd (x5 + x10) (fun v11 =>
  m_chk (¬ (v11 < 0 ∨ 2000 ≤ (v11).toNatClampNeg)) (
  m_bnd (A 2 (v11).toNatClampNeg) (fun v12 =>
  f_readRemarks_303 self4 self247 x1 x2 x4 x5 x6 x7 x8 x9 x10 v12 v8 I A)))
  ))))))))
  )

set_option maxRecDepth 100000 in
set_option maxHeartbeats 4000000 in
theorem ws_readRemarks_247 {p : Program} {l : Launch} {e : Env} {s : State} {m : MethodId} {args : Array Value} {below : List Frame} {meth : Method} {c : Code} {Q : State → Prop} {D : va_G} {cy ci : ClassId} {h : Nat → Nat} {A0 : Nat → Prop} {o : Int32 × MS} (X : CallFix p m c cX12_readRemarks 11 s args wsX12_readRemarks RX12) (hret : mRi p l e ({ frames := 1, cells := 0, slots := 0, locals := 21 } : Room) s m args below meth c Q cX12_readRemarks D cy ci h A0 .int o) {self4 : Int32 → Int32 → (Nat → Int32) → (Nat → Nat → Int32) → Option (Int32 × MS)} (hself4 : ∀ (x1 : Int32) (x2 : Int32) (I : Nat → Int32) (A : Nat → Nat → Int32) (H : Heap) (locs : List Loc) (ls : Array Slot), self4 x1 x2 I A = some o → mH D cy ci h A0 s H locs I A → lv_has ls 11 [(0, .ref (h 0)), (1, .int x1), (2, .int x2)] → W p l e ({ frames := 1, cells := 0, slots := 0, locals := 21 } : Room) s m args below meth c H locs 0 0 Q (F0 m 4 ls [])) {self247 : Int32 → Int32 → Int32 → Int32 → Int32 → Int32 → Int32 → Int32 → Int32 → (Nat → Int32) → (Nat → Nat → Int32) → Option (Int32 × MS)} (hself247 : ∀ (x1 : Int32) (x2 : Int32) (x4 : Int32) (x5 : Int32) (x6 : Int32) (x7 : Int32) (x8 : Int32) (x9 : Int32) (x10 : Int32) (I : Nat → Int32) (A : Nat → Nat → Int32) (H : Heap) (locs : List Loc) (ls : Array Slot), self247 x1 x2 x4 x5 x6 x7 x8 x9 x10 I A = some o → mH D cy ci h A0 s H locs I A → lv_has ls 11 [(0, .ref (h 0)), (1, .int x1), (2, .int x2), (4, .int x4), (5, .int x5), (6, .int x6), (7, .int x7), (8, .int x8), (9, .int x9), (10, .int x10)] → W p l e ({ frames := 1, cells := 0, slots := 0, locals := 21 } : Room) s m args below meth c H locs 0 0 Q (F0 m 247 ls [])) {x1 : Int32} {x2 : Int32} {x4 : Int32} {x5 : Int32} {x6 : Int32} {x7 : Int32} {x8 : Int32} {x9 : Int32} {x10 : Int32} {I : Nat → Int32} {A : Nat → Nat → Int32} {H : Heap} {locs : List Loc} {ls : Array Slot} (hf : f_readRemarks_247s self4 self247 x1 x2 x4 x5 x6 x7 x8 x9 x10 I A = some o) (hM : mH D cy ci h A0 s H locs I A) (hl : lv_has ls 11 [(0, .ref (h 0)), (1, .int x1), (2, .int x2), (4, .int x4), (5, .int x5), (6, .int x6), (7, .int x7), (8, .int x8), (9, .int x9), (10, .int x10)]) : W p l e ({ frames := 1, cells := 0, slots := 0, locals := 21 } : Room) s m args below meth c H locs 0 0 Q (F0 m 247 ls []) := by
  obtain ⟨hx, hb, hml, hown, hts⟩ := id X
  unfold f_readRemarks_247s at hf
  refine lv_iload hx hb dX12_readRemarks_247 (lv_at hl 9 rfl) ?_
  refine lv_iload hx hb dX12_readRemarks_249 (lv_at hl 5 rfl) ?_
  refine lv_icmp_ge (tgt := 310) hx hb dX12_readRemarks_251 (by decide) (fun cc1 => ?_) (fun cc1 => ?_)
  · replace hf := m_ifT hf cc1
    refine lv_aload_n hx hb dX12_readRemarks_310 rfl (lv_at hl 0 rfl) ?_
    refine m_get (v := .ref (h 14)) X hw_readRemarks hM 14 (by decide) fl_readRemarks_14 rfl dX12_readRemarks_311 ?_
    refine lv_iload hx hb dX12_readRemarks_314 (lv_at hl 6 rfl) ?_
    refine lv_iload hx hb dX12_readRemarks_316 (lv_at hl 7 rfl) ?_
    refine lv_iload hx hb dX12_readRemarks_318 (lv_at hl 8 rfl) ?_
    refine lv_iadd hx hb dX12_readRemarks_320 ?_
    obtain ⟨v1, ev, hf⟩ := m_bndE hf
    refine m_top ev ?_
    clear ev
    refine lv_iload hx hb dX12_readRemarks_321 (lv_at hl 5 rfl) ?_
    refine lv_iadd hx hb dX12_readRemarks_323 ?_
    obtain ⟨v2, ev, hf⟩ := m_bndE hf
    refine m_top ev ?_
    clear ev
    obtain ⟨cd, hf⟩ := m_chkE hf
    refine m_iast X hM 14 10 602 rfl ma_14 cd dX12_readRemarks_324 (fun H locs hM => ?_)
    clear cd
    obtain ⟨A3, ev, hf⟩ := m_bndE hf
    replace hM := m_hA hM ev
    clear ev
    refine lv_aload_n hx hb dX12_readRemarks_325 rfl (lv_at hl 0 rfl) ?_
    refine lv_iload hx hb dX12_readRemarks_326 (lv_at hl 3 rfl) ?_
    refine lv_if_eq (tgt := 340) hx hb dX12_readRemarks_328 (by decide) (fun cc1 => ?_) (fun cc1 => ?_)
    · replace hf := m_ifT hf cc1
      refine lv_aload_n hx hb dX12_readRemarks_340 rfl (lv_at hl 0 rfl) ?_
      refine m_get (v := .int (I 37)) X hw_readRemarks hM 37 (by decide) fl_readRemarks_37 rfl dX12_readRemarks_341 ?_
      exact w_readRemarks_344 X hret hself4 hf hM (lv_sub hl [0, 1, 2] rfl)
    · replace hf := m_ifF hf cc1
      refine lv_aload_n hx hb dX12_readRemarks_331 rfl (lv_at hl 0 rfl) ?_
      refine m_get (v := .int (I 37)) X hw_readRemarks hM 37 (by decide) fl_readRemarks_37 rfl dX12_readRemarks_332 ?_
      refine lv_iconst (v := (1 : Int32)) hx hb dX12_readRemarks_335 (by decide) ?_
      refine lv_iadd hx hb dX12_readRemarks_336 ?_
      obtain ⟨v4, ev, hf⟩ := m_bndE hf
      refine m_top ev ?_
      clear ev
      refine lv_goto (tgt := 344) hx hb dX12_readRemarks_337 (by decide) ?_
      exact w_readRemarks_344 X hret hself4 hf hM (lv_sub hl [0, 1, 2] rfl)
  · replace hf := m_ifF hf cc1
    refine lv_aload_n hx hb dX12_readRemarks_254 rfl (lv_at hl 0 rfl) ?_
    refine m_get (v := .ref (h 15)) X hw_readRemarks hM 15 (by decide) fl_readRemarks_15 rfl dX12_readRemarks_255 ?_
    refine lv_sipush (v := (200 : Int32)) hx hb dX12_readRemarks_258 (by decide) ?_
    refine lv_iload hx hb dX12_readRemarks_261 (lv_at hl 6 rfl) ?_
    refine lv_imul hx hb dX12_readRemarks_263 ?_
    obtain ⟨v5, ev, hf⟩ := m_bndE hf
    refine m_top ev ?_
    clear ev
    refine lv_iload hx hb dX12_readRemarks_264 (lv_at hl 7 rfl) ?_
    refine lv_iadd hx hb dX12_readRemarks_266 ?_
    obtain ⟨v6, ev, hf⟩ := m_bndE hf
    refine m_top ev ?_
    clear ev
    refine lv_iload hx hb dX12_readRemarks_267 (lv_at hl 8 rfl) ?_
    refine lv_iadd hx hb dX12_readRemarks_269 ?_
    obtain ⟨v7, ev, hf⟩ := m_bndE hf
    refine m_top ev ?_
    clear ev
    refine lv_iload hx hb dX12_readRemarks_270 (lv_at hl 9 rfl) ?_
    refine lv_iadd hx hb dX12_readRemarks_272 ?_
    obtain ⟨v8, ev, hf⟩ := m_bndE hf
    refine m_top ev ?_
    clear ev
    refine lv_aload_n hx hb dX12_readRemarks_273 rfl (lv_at hl 0 rfl) ?_
    refine m_get (v := .ref (h 2)) X hw_readRemarks hM 2 (by decide) fl_readRemarks_2 rfl dX12_readRemarks_274 ?_
    refine lv_iload hx hb dX12_readRemarks_277 (lv_at hl 4 rfl) ?_
    refine lv_iload hx hb dX12_readRemarks_279 (lv_at hl 9 rfl) ?_
    refine lv_iadd hx hb dX12_readRemarks_281 ?_
    obtain ⟨v9, ev, hf⟩ := m_bndE hf
    refine m_top ev ?_
    clear ev
    obtain ⟨cd, hf⟩ := m_chkE hf
    refine m_cald X hM 2 1 2000 rfl cd dX12_readRemarks_282 ?_
    clear cd
    obtain ⟨v10, ev, hf⟩ := m_bndE hf
    refine m_top ev ?_
    clear ev
    refine lv_bipush (v := (10 : Int32)) hx hb dX12_readRemarks_283 (by decide) ?_
    refine lv_icmp_ne (tgt := 293) hx hb dX12_readRemarks_285 (by decide) (fun cc1 => ?_) (fun cc1 => ?_)
    · replace hf := m_ifF hf cc1
      refine lv_aload_n hx hb dX12_readRemarks_293 rfl (lv_at hl 0 rfl) ?_
      refine m_get (v := .ref (h 2)) X hw_readRemarks hM 2 (by decide) fl_readRemarks_2 rfl dX12_readRemarks_294 ?_
      refine lv_iload hx hb dX12_readRemarks_297 (lv_at hl 4 rfl) ?_
      refine lv_iload hx hb dX12_readRemarks_299 (lv_at hl 9 rfl) ?_
      refine lv_iadd hx hb dX12_readRemarks_301 ?_
      obtain ⟨v11, ev, hf⟩ := m_bndE hf
      refine m_top ev ?_
      clear ev
      obtain ⟨cd, hf⟩ := m_chkE hf
      refine m_cald X hM 2 1 2000 rfl cd dX12_readRemarks_302 ?_
      clear cd
      obtain ⟨v12, ev, hf⟩ := m_bndE hf
      refine m_top ev ?_
      clear ev
      exact w_readRemarks_303 X hret hself4 hself247 hf hM (lv_sub hl [0, 1, 2, 3, 4, 5, 6, 7, 8, 9] rfl)
    · replace hf := m_ifT hf cc1
      refine lv_bipush (v := (32 : Int32)) hx hb dX12_readRemarks_288 (by decide) ?_
      refine lv_goto (tgt := 303) hx hb dX12_readRemarks_290 (by decide) ?_
      exact w_readRemarks_303 X hret hself4 hself247 hf hM (lv_sub hl [0, 1, 2, 3, 4, 5, 6, 7, 8, 9] rfl)
noncomputable def f_readRemarks_247 (self4 : Int32 → Int32 → (Nat → Int32) → (Nat → Nat → Int32) → Option (Int32 × MS)) : Nat → Int32 → Int32 → Int32 → Int32 → Int32 → Int32 → Int32 → Int32 → Int32 → (Nat → Int32) → (Nat → Nat → Int32) → Option (Int32 × MS)
  | 0 => fun _ _ _ _ _ _ _ _ _ _ _ => none
  | n + 1 => f_readRemarks_247s self4 (f_readRemarks_247 self4 n)
theorem w_readRemarks_247 {p : Program} {l : Launch} {e : Env} {s : State} {m : MethodId} {args : Array Value} {below : List Frame} {meth : Method} {c : Code} {Q : State → Prop} {D : va_G} {cy ci : ClassId} {h : Nat → Nat} {A0 : Nat → Prop} {o : Int32 × MS} (X : CallFix p m c cX12_readRemarks 11 s args wsX12_readRemarks RX12) (hret : mRi p l e ({ frames := 1, cells := 0, slots := 0, locals := 21 } : Room) s m args below meth c Q cX12_readRemarks D cy ci h A0 .int o) {self4 : Int32 → Int32 → (Nat → Int32) → (Nat → Nat → Int32) → Option (Int32 × MS)} (hself4 : ∀ (x1 : Int32) (x2 : Int32) (I : Nat → Int32) (A : Nat → Nat → Int32) (H : Heap) (locs : List Loc) (ls : Array Slot), self4 x1 x2 I A = some o → mH D cy ci h A0 s H locs I A → lv_has ls 11 [(0, .ref (h 0)), (1, .int x1), (2, .int x2)] → W p l e ({ frames := 1, cells := 0, slots := 0, locals := 21 } : Room) s m args below meth c H locs 0 0 Q (F0 m 4 ls [])) (n : Nat) : ∀ (x1 : Int32) (x2 : Int32) (x4 : Int32) (x5 : Int32) (x6 : Int32) (x7 : Int32) (x8 : Int32) (x9 : Int32) (x10 : Int32) (I : Nat → Int32) (A : Nat → Nat → Int32) (H : Heap) (locs : List Loc) (ls : Array Slot), f_readRemarks_247 self4 n x1 x2 x4 x5 x6 x7 x8 x9 x10 I A = some o → mH D cy ci h A0 s H locs I A → lv_has ls 11 [(0, .ref (h 0)), (1, .int x1), (2, .int x2), (4, .int x4), (5, .int x5), (6, .int x6), (7, .int x7), (8, .int x8), (9, .int x9), (10, .int x10)] → W p l e ({ frames := 1, cells := 0, slots := 0, locals := 21 } : Room) s m args below meth c H locs 0 0 Q (F0 m 247 ls []) := by
  induction n with
  | zero => intro x1 x2 x4 x5 x6 x7 x8 x9 x10 I A H locs ls hf; cases hf
  | succ n ih => intro x1 x2 x4 x5 x6 x7 x8 x9 x10 I A H locs ls hf hM hl; exact ws_readRemarks_247 X hret hself4 (self247 := f_readRemarks_247 self4 n) ih hf hM hl
noncomputable def f_readRemarks_244 (self4 : Int32 → Int32 → (Nat → Int32) → (Nat → Nat → Int32) → Option (Int32 × MS)) (x1 : Int32) (x2 : Int32) (x4 : Int32) (x5 : Int32) (x6 : Int32) (x7 : Int32) (x8 : Int32) (x9 : Int32) (I : Nat → Int32) (A : Nat → Nat → Int32) : Option (Int32 × MS) :=
  f_readRemarks_247 self4 mFuel x1 x2 x4 x5 x6 x7 x8 x9 (0 : Int32) I A

set_option maxRecDepth 100000 in
set_option maxHeartbeats 4000000 in
theorem w_readRemarks_244 {p : Program} {l : Launch} {e : Env} {s : State} {m : MethodId} {args : Array Value} {below : List Frame} {meth : Method} {c : Code} {Q : State → Prop} {D : va_G} {cy ci : ClassId} {h : Nat → Nat} {A0 : Nat → Prop} {o : Int32 × MS} (X : CallFix p m c cX12_readRemarks 11 s args wsX12_readRemarks RX12) (hret : mRi p l e ({ frames := 1, cells := 0, slots := 0, locals := 21 } : Room) s m args below meth c Q cX12_readRemarks D cy ci h A0 .int o) {self4 : Int32 → Int32 → (Nat → Int32) → (Nat → Nat → Int32) → Option (Int32 × MS)} (hself4 : ∀ (x1 : Int32) (x2 : Int32) (I : Nat → Int32) (A : Nat → Nat → Int32) (H : Heap) (locs : List Loc) (ls : Array Slot), self4 x1 x2 I A = some o → mH D cy ci h A0 s H locs I A → lv_has ls 11 [(0, .ref (h 0)), (1, .int x1), (2, .int x2)] → W p l e ({ frames := 1, cells := 0, slots := 0, locals := 21 } : Room) s m args below meth c H locs 0 0 Q (F0 m 4 ls [])) {x1 : Int32} {x2 : Int32} {x4 : Int32} {x5 : Int32} {x6 : Int32} {x7 : Int32} {x8 : Int32} {x9 : Int32} {I : Nat → Int32} {A : Nat → Nat → Int32} {H : Heap} {locs : List Loc} {ls : Array Slot} (hf : f_readRemarks_244 self4 x1 x2 x4 x5 x6 x7 x8 x9 I A = some o) (hM : mH D cy ci h A0 s H locs I A) (hl : lv_has ls 11 [(0, .ref (h 0)), (1, .int x1), (2, .int x2), (4, .int x4), (5, .int x5), (6, .int x6), (7, .int x7), (8, .int x8), (9, .int x9)]) : W p l e ({ frames := 1, cells := 0, slots := 0, locals := 21 } : Room) s m args below meth c H locs 0 0 Q (F0 m 244 ls []) := by
  obtain ⟨hx, hb, hml, hown, hts⟩ := id X
  unfold f_readRemarks_244 at hf
  refine lv_iconst (v := (0 : Int32)) hx hb dX12_readRemarks_244 (by decide) ?_
  refine lv_istore (lv' := [(10, .int (0 : Int32)), (0, .ref (h 0)), (1, .int x1), (2, .int x2), (4, .int x4), (5, .int x5), (6, .int x6), (7, .int x7), (8, .int x8), (9, .int x9)]) hx hb dX12_readRemarks_245 hl (by decide) rfl (fun ls hl => ?_)
  exact w_readRemarks_247 X hret hself4 _ _ _ _ _ _ _ _ _ _ _ _ _ _ _ hf hM (lv_sub hl [1, 2, 3, 4, 5, 6, 7, 8, 9, 0] rfl)
noncomputable def f_readRemarks_199 (self4 : Int32 → Int32 → (Nat → Int32) → (Nat → Nat → Int32) → Option (Int32 × MS)) (x1 : Int32) (x2 : Int32) (x3 : Int32) (x4 : Int32) (x5 : Int32) (x6 : Int32) (x7 : Int32) (x8 : Int32) (t0 : Int32) (I : Nat → Int32) (A : Nat → Nat → Int32) : Option (Int32 × MS) :=
  m_bnd (x8 + t0) (fun v1 =>
  m_bnd (v1 + x6) (fun v2 =>
  m_if (v2 ≤ (200 : Int32)) (
  m_if (t0 = (1 : Int32)) (
  m_bnd ((200 : Int32) * x7) (fun v3 =>
  m_bnd (v3 + x8) (fun v4 =>
  m_chk (¬ (v4 < 0 ∨ 120400 ≤ (v4).toNatClampNeg)) (
  m_bnd (va_up A 15 (upd (A 15) (v4).toNatClampNeg (vp_nar .char (32 : Int32)))) (fun A5 =>
  f_readRemarks_244 self4 x1 x2 x4 x5 x6 x7 x8 t0 I A5))))
  ) (
  f_readRemarks_244 self4 x1 x2 x4 x5 x6 x7 x8 t0 I A
  )
  ) (
  m_cl (f_fault (8 : Int32) x3 I A) (fun r6 Ic6 Ac6 =>
  some (r6, (Ic6, Ac6)))
  )))

set_option maxRecDepth 100000 in
set_option maxHeartbeats 4000000 in
theorem w_readRemarks_199 {p : Program} {l : Launch} {e : Env} {s : State} {m : MethodId} {args : Array Value} {below : List Frame} {meth : Method} {c : Code} {Q : State → Prop} {D : va_G} {cy ci : ClassId} {h : Nat → Nat} {A0 : Nat → Prop} {o : Int32 × MS} (X : CallFix p m c cX12_readRemarks 11 s args wsX12_readRemarks RX12) (hret : mRi p l e ({ frames := 1, cells := 0, slots := 0, locals := 21 } : Room) s m args below meth c Q cX12_readRemarks D cy ci h A0 .int o) {self4 : Int32 → Int32 → (Nat → Int32) → (Nat → Nat → Int32) → Option (Int32 × MS)} (hself4 : ∀ (x1 : Int32) (x2 : Int32) (I : Nat → Int32) (A : Nat → Nat → Int32) (H : Heap) (locs : List Loc) (ls : Array Slot), self4 x1 x2 I A = some o → mH D cy ci h A0 s H locs I A → lv_has ls 11 [(0, .ref (h 0)), (1, .int x1), (2, .int x2)] → W p l e ({ frames := 1, cells := 0, slots := 0, locals := 21 } : Room) s m args below meth c H locs 0 0 Q (F0 m 4 ls [])) {x1 : Int32} {x2 : Int32} {x3 : Int32} {x4 : Int32} {x5 : Int32} {x6 : Int32} {x7 : Int32} {x8 : Int32} {t0 : Int32} {I : Nat → Int32} {A : Nat → Nat → Int32} {H : Heap} {locs : List Loc} {ls : Array Slot} (hf : f_readRemarks_199 self4 x1 x2 x3 x4 x5 x6 x7 x8 t0 I A = some o) (hM : mH D cy ci h A0 s H locs I A) (hl : lv_has ls 11 [(0, .ref (h 0)), (1, .int x1), (2, .int x2), (3, .int x3), (4, .int x4), (5, .int x5), (6, .int x6), (7, .int x7), (8, .int x8)]) : W p l e ({ frames := 1, cells := 0, slots := 0, locals := 21 } : Room) s m args below meth c H locs 0 0 Q (F0 m 199 ls [.int t0]) := by
  obtain ⟨hx, hb, hml, hown, hts⟩ := id X
  unfold f_readRemarks_199 at hf
  refine lv_istore (lv' := [(9, .int t0), (0, .ref (h 0)), (1, .int x1), (2, .int x2), (3, .int x3), (4, .int x4), (5, .int x5), (6, .int x6), (7, .int x7), (8, .int x8)]) hx hb dX12_readRemarks_199 hl (by decide) rfl (fun ls hl => ?_)
  refine lv_iload hx hb dX12_readRemarks_201 (lv_at hl 9 rfl) ?_
  refine lv_iload hx hb dX12_readRemarks_203 (lv_at hl 0 rfl) ?_
  refine lv_iadd hx hb dX12_readRemarks_205 ?_
  obtain ⟨v1, ev, hf⟩ := m_bndE hf
  refine m_top ev ?_
  clear ev
  refine lv_iload hx hb dX12_readRemarks_206 (lv_at hl 7 rfl) ?_
  refine lv_iadd hx hb dX12_readRemarks_208 ?_
  obtain ⟨v2, ev, hf⟩ := m_bndE hf
  refine m_top ev ?_
  clear ev
  refine lv_sipush (v := (200 : Int32)) hx hb dX12_readRemarks_209 (by decide) ?_
  refine lv_icmp_le (tgt := 222) hx hb dX12_readRemarks_212 (by decide) (fun cc1 => ?_) (fun cc1 => ?_)
  · replace hf := m_ifT hf cc1
    refine lv_iload hx hb dX12_readRemarks_222 (lv_at hl 0 rfl) ?_
    refine lv_iconst (v := (1 : Int32)) hx hb dX12_readRemarks_224 (by decide) ?_
    refine lv_icmp_ne (tgt := 244) hx hb dX12_readRemarks_225 (by decide) (fun cc1 => ?_) (fun cc1 => ?_)
    · replace hf := m_ifF hf cc1
      exact w_readRemarks_244 X hret hself4 hf hM (lv_sub hl [1, 2, 3, 5, 6, 7, 8, 9, 0] rfl)
    · replace hf := m_ifT hf cc1
      refine lv_aload_n hx hb dX12_readRemarks_228 rfl (lv_at hl 1 rfl) ?_
      refine m_get (v := .ref (h 15)) X hw_readRemarks hM 15 (by decide) fl_readRemarks_15 rfl dX12_readRemarks_229 ?_
      refine lv_sipush (v := (200 : Int32)) hx hb dX12_readRemarks_232 (by decide) ?_
      refine lv_iload hx hb dX12_readRemarks_235 (lv_at hl 8 rfl) ?_
      refine lv_imul hx hb dX12_readRemarks_237 ?_
      obtain ⟨v3, ev, hf⟩ := m_bndE hf
      refine m_top ev ?_
      clear ev
      refine lv_iload hx hb dX12_readRemarks_238 (lv_at hl 9 rfl) ?_
      refine lv_iadd hx hb dX12_readRemarks_240 ?_
      obtain ⟨v4, ev, hf⟩ := m_bndE hf
      refine m_top ev ?_
      clear ev
      refine lv_bipush (v := (32 : Int32)) hx hb dX12_readRemarks_241 (by decide) ?_
      obtain ⟨cd, hf⟩ := m_chkE hf
      refine m_cast X hM 15 11 120400 rfl ma_15 cd dX12_readRemarks_243 (fun H locs hM => ?_)
      clear cd
      obtain ⟨A5, ev, hf⟩ := m_bndE hf
      replace hM := m_hA hM ev
      clear ev
      exact w_readRemarks_244 X hret hself4 hf hM (lv_sub hl [1, 2, 3, 5, 6, 7, 8, 9, 0] rfl)
  · replace hf := m_ifF hf cc1
    refine lv_bipush (v := (8 : Int32)) hx hb dX12_readRemarks_215 (by decide) ?_
    refine lv_iload_n hx hb dX12_readRemarks_217 rfl (lv_at hl 4 rfl) ?_
    obtain ⟨o6, ho, hf⟩ := m_clE hf
    refine m_callSi X hM (c_fault ho) gX12_readRemarks_X12_fault rfl ⟨rfl, rfl⟩ hd_fault ⟨Nat.le_of_ble_eq_true rfl, Nat.le_of_ble_eq_true rfl⟩ rfl hl.1 rfl (Nat.le_of_ble_eq_true rfl) dX12_readRemarks_218 (fun H locs hM => ?_)
    clear ho
    cases hf
    exact hret H locs _ ls hM rfl dX12_readRemarks_221
noncomputable def f_readRemarks_198 (self4 : Int32 → Int32 → (Nat → Int32) → (Nat → Nat → Int32) → Option (Int32 × MS)) (x1 : Int32) (x2 : Int32) (x3 : Int32) (x4 : Int32) (x5 : Int32) (x6 : Int32) (x7 : Int32) (x8 : Int32) (I : Nat → Int32) (A : Nat → Nat → Int32) : Option (Int32 × MS) :=
  f_readRemarks_199 self4 x1 x2 x3 x4 x5 x6 x7 x8 (0 : Int32) I A

set_option maxRecDepth 100000 in
set_option maxHeartbeats 4000000 in
theorem w_readRemarks_198 {p : Program} {l : Launch} {e : Env} {s : State} {m : MethodId} {args : Array Value} {below : List Frame} {meth : Method} {c : Code} {Q : State → Prop} {D : va_G} {cy ci : ClassId} {h : Nat → Nat} {A0 : Nat → Prop} {o : Int32 × MS} (X : CallFix p m c cX12_readRemarks 11 s args wsX12_readRemarks RX12) (hret : mRi p l e ({ frames := 1, cells := 0, slots := 0, locals := 21 } : Room) s m args below meth c Q cX12_readRemarks D cy ci h A0 .int o) {self4 : Int32 → Int32 → (Nat → Int32) → (Nat → Nat → Int32) → Option (Int32 × MS)} (hself4 : ∀ (x1 : Int32) (x2 : Int32) (I : Nat → Int32) (A : Nat → Nat → Int32) (H : Heap) (locs : List Loc) (ls : Array Slot), self4 x1 x2 I A = some o → mH D cy ci h A0 s H locs I A → lv_has ls 11 [(0, .ref (h 0)), (1, .int x1), (2, .int x2)] → W p l e ({ frames := 1, cells := 0, slots := 0, locals := 21 } : Room) s m args below meth c H locs 0 0 Q (F0 m 4 ls [])) {x1 : Int32} {x2 : Int32} {x3 : Int32} {x4 : Int32} {x5 : Int32} {x6 : Int32} {x7 : Int32} {x8 : Int32} {I : Nat → Int32} {A : Nat → Nat → Int32} {H : Heap} {locs : List Loc} {ls : Array Slot} (hf : f_readRemarks_198 self4 x1 x2 x3 x4 x5 x6 x7 x8 I A = some o) (hM : mH D cy ci h A0 s H locs I A) (hl : lv_has ls 11 [(0, .ref (h 0)), (1, .int x1), (2, .int x2), (3, .int x3), (4, .int x4), (5, .int x5), (6, .int x6), (7, .int x7), (8, .int x8)]) : W p l e ({ frames := 1, cells := 0, slots := 0, locals := 21 } : Room) s m args below meth c H locs 0 0 Q (F0 m 198 ls []) := by
  obtain ⟨hx, hb, hml, hown, hts⟩ := id X
  unfold f_readRemarks_198 at hf
  refine lv_iconst (v := (0 : Int32)) hx hb dX12_readRemarks_198 (by decide) ?_
  exact w_readRemarks_199 X hret hself4 hf hM (lv_sub hl [0, 1, 2, 3, 4, 5, 6, 7, 8] rfl)
noncomputable def f_readRemarks_157 (self4 : Int32 → Int32 → (Nat → Int32) → (Nat → Nat → Int32) → Option (Int32 × MS)) (x1 : Int32) (x2 : Int32) (x3 : Int32) (x4 : Int32) (x5 : Int32) (I : Nat → Int32) (A : Nat → Nat → Int32) : Option (Int32 × MS) :=
  m_bnd ((I 37) - x5) (fun v1 =>
  m_bnd ((301 : Int32) * x1) (fun v2 =>
  m_bnd (v2 + x2) (fun v3 =>
  m_chk (¬ (v3 < 0 ∨ 602 ≤ (v3).toNatClampNeg)) (
  m_bnd (A 14 (v3).toNatClampNeg) (fun v4 =>
  m_if (v1 ≤ 0) (
  f_readRemarks_198 self4 x1 x2 x3 x4 x5 v1 v3 v4 I A
  ) (
  m_if (v4 ≤ 0) (
  f_readRemarks_198 self4 x1 x2 x3 x4 x5 v1 v3 v4 I A
  ) (
  f_readRemarks_199 self4 x1 x2 x3 x4 x5 v1 v3 v4 (1 : Int32) I A
  )
  ))))))

set_option maxRecDepth 100000 in
set_option maxHeartbeats 4000000 in
theorem w_readRemarks_157 {p : Program} {l : Launch} {e : Env} {s : State} {m : MethodId} {args : Array Value} {below : List Frame} {meth : Method} {c : Code} {Q : State → Prop} {D : va_G} {cy ci : ClassId} {h : Nat → Nat} {A0 : Nat → Prop} {o : Int32 × MS} (X : CallFix p m c cX12_readRemarks 11 s args wsX12_readRemarks RX12) (hret : mRi p l e ({ frames := 1, cells := 0, slots := 0, locals := 21 } : Room) s m args below meth c Q cX12_readRemarks D cy ci h A0 .int o) {self4 : Int32 → Int32 → (Nat → Int32) → (Nat → Nat → Int32) → Option (Int32 × MS)} (hself4 : ∀ (x1 : Int32) (x2 : Int32) (I : Nat → Int32) (A : Nat → Nat → Int32) (H : Heap) (locs : List Loc) (ls : Array Slot), self4 x1 x2 I A = some o → mH D cy ci h A0 s H locs I A → lv_has ls 11 [(0, .ref (h 0)), (1, .int x1), (2, .int x2)] → W p l e ({ frames := 1, cells := 0, slots := 0, locals := 21 } : Room) s m args below meth c H locs 0 0 Q (F0 m 4 ls [])) {x1 : Int32} {x2 : Int32} {x3 : Int32} {x4 : Int32} {x5 : Int32} {I : Nat → Int32} {A : Nat → Nat → Int32} {H : Heap} {locs : List Loc} {ls : Array Slot} (hf : f_readRemarks_157 self4 x1 x2 x3 x4 x5 I A = some o) (hM : mH D cy ci h A0 s H locs I A) (hl : lv_has ls 11 [(0, .ref (h 0)), (1, .int x1), (2, .int x2), (3, .int x3), (4, .int x4), (5, .int x5)]) : W p l e ({ frames := 1, cells := 0, slots := 0, locals := 21 } : Room) s m args below meth c H locs 0 0 Q (F0 m 157 ls []) := by
  obtain ⟨hx, hb, hml, hown, hts⟩ := id X
  unfold f_readRemarks_157 at hf
  refine lv_aload_n hx hb dX12_readRemarks_157 rfl (lv_at hl 0 rfl) ?_
  refine m_get (v := .int (I 37)) X hw_readRemarks hM 37 (by decide) fl_readRemarks_37 rfl dX12_readRemarks_158 ?_
  refine lv_iload hx hb dX12_readRemarks_161 (lv_at hl 5 rfl) ?_
  refine lv_isub hx hb dX12_readRemarks_163 ?_
  obtain ⟨v1, ev, hf⟩ := m_bndE hf
  refine m_top ev ?_
  clear ev
  refine lv_istore (lv' := [(6, .int v1), (0, .ref (h 0)), (1, .int x1), (2, .int x2), (3, .int x3), (4, .int x4), (5, .int x5)]) hx hb dX12_readRemarks_164 hl (by decide) rfl (fun ls hl => ?_)
  refine lv_sipush (v := (301 : Int32)) hx hb dX12_readRemarks_166 (by decide) ?_
  refine lv_iload_n hx hb dX12_readRemarks_169 rfl (lv_at hl 2 rfl) ?_
  refine lv_imul hx hb dX12_readRemarks_170 ?_
  obtain ⟨v2, ev, hf⟩ := m_bndE hf
  refine m_top ev ?_
  clear ev
  refine lv_iload_n hx hb dX12_readRemarks_171 rfl (lv_at hl 3 rfl) ?_
  refine lv_iadd hx hb dX12_readRemarks_172 ?_
  obtain ⟨v3, ev, hf⟩ := m_bndE hf
  refine m_top ev ?_
  clear ev
  refine lv_istore (lv' := [(7, .int v3), (6, .int v1), (0, .ref (h 0)), (1, .int x1), (2, .int x2), (3, .int x3), (4, .int x4), (5, .int x5)]) hx hb dX12_readRemarks_173 hl (by decide) rfl (fun ls hl => ?_)
  refine lv_aload_n hx hb dX12_readRemarks_175 rfl (lv_at hl 2 rfl) ?_
  refine m_get (v := .ref (h 14)) X hw_readRemarks hM 14 (by decide) fl_readRemarks_14 rfl dX12_readRemarks_176 ?_
  refine lv_iload hx hb dX12_readRemarks_179 (lv_at hl 0 rfl) ?_
  obtain ⟨cd, hf⟩ := m_chkE hf
  refine m_iald X hM 14 10 602 rfl cd dX12_readRemarks_181 ?_
  clear cd
  obtain ⟨v4, ev, hf⟩ := m_bndE hf
  refine m_top ev ?_
  clear ev
  refine lv_istore (lv' := [(8, .int v4), (7, .int v3), (6, .int v1), (0, .ref (h 0)), (1, .int x1), (2, .int x2), (3, .int x3), (4, .int x4), (5, .int x5)]) hx hb dX12_readRemarks_182 hl (by decide) rfl (fun ls hl => ?_)
  refine lv_iload hx hb dX12_readRemarks_184 (lv_at hl 2 rfl) ?_
  refine lv_if_le (tgt := 198) hx hb dX12_readRemarks_186 (by decide) (fun cc1 => ?_) (fun cc1 => ?_)
  · replace hf := m_ifT hf cc1
    exact w_readRemarks_198 X hret hself4 hf hM (lv_sub hl [3, 4, 5, 6, 7, 8, 2, 1, 0] rfl)
  · replace hf := m_ifF hf cc1
    refine lv_iload hx hb dX12_readRemarks_189 (lv_at hl 0 rfl) ?_
    refine lv_if_le (tgt := 198) hx hb dX12_readRemarks_191 (by decide) (fun cc1 => ?_) (fun cc1 => ?_)
    · replace hf := m_ifT hf cc1
      exact w_readRemarks_198 X hret hself4 hf hM (lv_sub hl [3, 4, 5, 6, 7, 8, 2, 1, 0] rfl)
    · replace hf := m_ifF hf cc1
      refine lv_iconst (v := (1 : Int32)) hx hb dX12_readRemarks_194 (by decide) ?_
      refine lv_goto (tgt := 199) hx hb dX12_readRemarks_195 (by decide) ?_
      exact w_readRemarks_199 X hret hself4 hf hM (lv_sub hl [3, 4, 5, 6, 7, 8, 2, 1, 0] rfl)
noncomputable def f_readRemarks_132 (self4 : Int32 → Int32 → (Nat → Int32) → (Nat → Nat → Int32) → Option (Int32 × MS)) (x1 : Int32) (x2 : Int32) (x3 : Int32) (x4 : Int32) (x5 : Int32) (I : Nat → Int32) (A : Nat → Nat → Int32) : Option (Int32 × MS) :=
  m_if (x4 = 0) (
  f_readRemarks_157 self4 x1 x2 x3 x4 x5 I A
  ) (
  m_if ((I 37) = (I 1)) (
  m_cl (f_fault (1 : Int32) (I 37) I A) (fun r1 Ic1 Ac1 =>
  some (r1, (Ic1, Ac1)))
  ) (
  f_readRemarks_157 self4 x1 x2 x3 x4 x5 I A
  )
  )

set_option maxRecDepth 100000 in
set_option maxHeartbeats 4000000 in
theorem w_readRemarks_132 {p : Program} {l : Launch} {e : Env} {s : State} {m : MethodId} {args : Array Value} {below : List Frame} {meth : Method} {c : Code} {Q : State → Prop} {D : va_G} {cy ci : ClassId} {h : Nat → Nat} {A0 : Nat → Prop} {o : Int32 × MS} (X : CallFix p m c cX12_readRemarks 11 s args wsX12_readRemarks RX12) (hret : mRi p l e ({ frames := 1, cells := 0, slots := 0, locals := 21 } : Room) s m args below meth c Q cX12_readRemarks D cy ci h A0 .int o) {self4 : Int32 → Int32 → (Nat → Int32) → (Nat → Nat → Int32) → Option (Int32 × MS)} (hself4 : ∀ (x1 : Int32) (x2 : Int32) (I : Nat → Int32) (A : Nat → Nat → Int32) (H : Heap) (locs : List Loc) (ls : Array Slot), self4 x1 x2 I A = some o → mH D cy ci h A0 s H locs I A → lv_has ls 11 [(0, .ref (h 0)), (1, .int x1), (2, .int x2)] → W p l e ({ frames := 1, cells := 0, slots := 0, locals := 21 } : Room) s m args below meth c H locs 0 0 Q (F0 m 4 ls [])) {x1 : Int32} {x2 : Int32} {x3 : Int32} {x4 : Int32} {x5 : Int32} {I : Nat → Int32} {A : Nat → Nat → Int32} {H : Heap} {locs : List Loc} {ls : Array Slot} (hf : f_readRemarks_132 self4 x1 x2 x3 x4 x5 I A = some o) (hM : mH D cy ci h A0 s H locs I A) (hl : lv_has ls 11 [(0, .ref (h 0)), (1, .int x1), (2, .int x2), (3, .int x3), (4, .int x4), (5, .int x5)]) : W p l e ({ frames := 1, cells := 0, slots := 0, locals := 21 } : Room) s m args below meth c H locs 0 0 Q (F0 m 132 ls []) := by
  obtain ⟨hx, hb, hml, hown, hts⟩ := id X
  unfold f_readRemarks_132 at hf
  refine lv_iload hx hb dX12_readRemarks_132 (lv_at hl 4 rfl) ?_
  refine lv_if_eq (tgt := 157) hx hb dX12_readRemarks_134 (by decide) (fun cc1 => ?_) (fun cc1 => ?_)
  · replace hf := m_ifT hf cc1
    exact w_readRemarks_157 X hret hself4 hf hM (lv_sub hl [0, 1, 2, 3, 4, 5] rfl)
  · replace hf := m_ifF hf cc1
    refine lv_aload_n hx hb dX12_readRemarks_137 rfl (lv_at hl 0 rfl) ?_
    refine m_get (v := .int (I 37)) X hw_readRemarks hM 37 (by decide) fl_readRemarks_37 rfl dX12_readRemarks_138 ?_
    refine lv_aload_n hx hb dX12_readRemarks_141 rfl (lv_at hl 0 rfl) ?_
    refine m_get (v := .int (I 1)) X hw_readRemarks hM 1 (by decide) fl_readRemarks_1 rfl dX12_readRemarks_142 ?_
    refine lv_icmp_ne (tgt := 157) hx hb dX12_readRemarks_145 (by decide) (fun cc1 => ?_) (fun cc1 => ?_)
    · replace hf := m_ifF hf cc1
      exact w_readRemarks_157 X hret hself4 hf hM (lv_sub hl [0, 1, 2, 3, 4, 5] rfl)
    · replace hf := m_ifT hf cc1
      refine lv_iconst (v := (1 : Int32)) hx hb dX12_readRemarks_148 (by decide) ?_
      refine lv_aload_n hx hb dX12_readRemarks_149 rfl (lv_at hl 0 rfl) ?_
      refine m_get (v := .int (I 37)) X hw_readRemarks hM 37 (by decide) fl_readRemarks_37 rfl dX12_readRemarks_150 ?_
      obtain ⟨o1, ho, hf⟩ := m_clE hf
      refine m_callSi X hM (c_fault ho) gX12_readRemarks_X12_fault rfl ⟨rfl, rfl⟩ hd_fault ⟨Nat.le_of_ble_eq_true rfl, Nat.le_of_ble_eq_true rfl⟩ rfl hl.1 rfl (Nat.le_of_ble_eq_true rfl) dX12_readRemarks_153 (fun H locs hM => ?_)
      clear ho
      cases hf
      exact hret H locs _ ls hM rfl dX12_readRemarks_156
noncomputable def f_readRemarks_119 (self4 : Int32 → Int32 → (Nat → Int32) → (Nat → Nat → Int32) → Option (Int32 × MS)) (self59 : Int32 → Int32 → Int32 → Int32 → Int32 → (Nat → Int32) → (Nat → Nat → Int32) → Option (Int32 × MS)) (x1 : Int32) (x2 : Int32) (x3 : Int32) (x4 : Int32) (x5 : Int32) (I : Nat → Int32) (A : Nat → Nat → Int32) : Option (Int32 × MS) :=
  m_bnd ((I 37) + (1 : Int32)) (fun v1 =>
  m_bnd (upd I 37 v1) (fun I2 =>
  self59 x1 x2 x3 x4 x5 I2 A))

set_option maxRecDepth 100000 in
set_option maxHeartbeats 4000000 in
theorem w_readRemarks_119 {p : Program} {l : Launch} {e : Env} {s : State} {m : MethodId} {args : Array Value} {below : List Frame} {meth : Method} {c : Code} {Q : State → Prop} {D : va_G} {cy ci : ClassId} {h : Nat → Nat} {A0 : Nat → Prop} {o : Int32 × MS} (X : CallFix p m c cX12_readRemarks 11 s args wsX12_readRemarks RX12) (hret : mRi p l e ({ frames := 1, cells := 0, slots := 0, locals := 21 } : Room) s m args below meth c Q cX12_readRemarks D cy ci h A0 .int o) {self4 : Int32 → Int32 → (Nat → Int32) → (Nat → Nat → Int32) → Option (Int32 × MS)} (hself4 : ∀ (x1 : Int32) (x2 : Int32) (I : Nat → Int32) (A : Nat → Nat → Int32) (H : Heap) (locs : List Loc) (ls : Array Slot), self4 x1 x2 I A = some o → mH D cy ci h A0 s H locs I A → lv_has ls 11 [(0, .ref (h 0)), (1, .int x1), (2, .int x2)] → W p l e ({ frames := 1, cells := 0, slots := 0, locals := 21 } : Room) s m args below meth c H locs 0 0 Q (F0 m 4 ls [])) {self59 : Int32 → Int32 → Int32 → Int32 → Int32 → (Nat → Int32) → (Nat → Nat → Int32) → Option (Int32 × MS)} (hself59 : ∀ (x1 : Int32) (x2 : Int32) (x3 : Int32) (x4 : Int32) (x5 : Int32) (I : Nat → Int32) (A : Nat → Nat → Int32) (H : Heap) (locs : List Loc) (ls : Array Slot), self59 x1 x2 x3 x4 x5 I A = some o → mH D cy ci h A0 s H locs I A → lv_has ls 11 [(0, .ref (h 0)), (1, .int x1), (2, .int x2), (3, .int x3), (4, .int x4), (5, .int x5)] → W p l e ({ frames := 1, cells := 0, slots := 0, locals := 21 } : Room) s m args below meth c H locs 0 0 Q (F0 m 59 ls [])) {x1 : Int32} {x2 : Int32} {x3 : Int32} {x4 : Int32} {x5 : Int32} {I : Nat → Int32} {A : Nat → Nat → Int32} {H : Heap} {locs : List Loc} {ls : Array Slot} (hf : f_readRemarks_119 self4 self59 x1 x2 x3 x4 x5 I A = some o) (hM : mH D cy ci h A0 s H locs I A) (hl : lv_has ls 11 [(0, .ref (h 0)), (1, .int x1), (2, .int x2), (3, .int x3), (4, .int x4), (5, .int x5)]) : W p l e ({ frames := 1, cells := 0, slots := 0, locals := 21 } : Room) s m args below meth c H locs 0 0 Q (F0 m 119 ls []) := by
  obtain ⟨hx, hb, hml, hown, hts⟩ := id X
  unfold f_readRemarks_119 at hf
  refine lv_aload_n hx hb dX12_readRemarks_119 rfl (lv_at hl 0 rfl) ?_
  refine lv_dup hx hb dX12_readRemarks_120 rfl ?_
  refine m_get (v := .int (I 37)) X hw_readRemarks hM 37 (by decide) fl_readRemarks_37 rfl dX12_readRemarks_121 ?_
  refine lv_iconst (v := (1 : Int32)) hx hb dX12_readRemarks_124 (by decide) ?_
  refine lv_iadd hx hb dX12_readRemarks_125 ?_
  obtain ⟨v1, ev, hf⟩ := m_bndE hf
  refine m_top ev ?_
  clear ev
  refine m_put X hw_readRemarks hM 37 (by decide) fl_readRemarks_37 mi_37 rfl (tyX12_ok 37 (by decide)) dX12_readRemarks_126 (fun H locs hM => ?_)
  obtain ⟨I2, ev, hf⟩ := m_bndE hf
  replace hM := m_hI hM ev
  clear ev
  refine lv_goto (tgt := 59) hx hb dX12_readRemarks_129 (by decide) ?_
  exact hself59 _ _ _ _ _ _ _ _ _ _ hf hM (lv_sub hl [0, 1, 2, 3, 4, 5] rfl)
noncomputable def f_readRemarks_96 (self4 : Int32 → Int32 → (Nat → Int32) → (Nat → Nat → Int32) → Option (Int32 × MS)) (self59 : Int32 → Int32 → Int32 → Int32 → Int32 → (Nat → Int32) → (Nat → Nat → Int32) → Option (Int32 × MS)) (x1 : Int32) (x2 : Int32) (x3 : Int32) (x4 : Int32) (x5 : Int32) (I : Nat → Int32) (A : Nat → Nat → Int32) : Option (Int32 × MS) :=
  m_if (x4 = 0) (
  m_cl (f_look  I A) (fun r1 Ic1 Ac1 =>
  m_if (r1 = (125 : Int32)) (
  m_cl (f_fault (1 : Int32) (Ic1 37) Ic1 Ac1) (fun r2 Ic2 Ac2 =>
  some (r2, (Ic2, Ac2)))
  ) (
  f_readRemarks_119 self4 self59 x1 x2 x3 x4 x5 Ic1 Ac1
  ))
  ) (
  f_readRemarks_119 self4 self59 x1 x2 x3 x4 x5 I A
  )

set_option maxRecDepth 100000 in
set_option maxHeartbeats 4000000 in
theorem w_readRemarks_96 {p : Program} {l : Launch} {e : Env} {s : State} {m : MethodId} {args : Array Value} {below : List Frame} {meth : Method} {c : Code} {Q : State → Prop} {D : va_G} {cy ci : ClassId} {h : Nat → Nat} {A0 : Nat → Prop} {o : Int32 × MS} (X : CallFix p m c cX12_readRemarks 11 s args wsX12_readRemarks RX12) (hret : mRi p l e ({ frames := 1, cells := 0, slots := 0, locals := 21 } : Room) s m args below meth c Q cX12_readRemarks D cy ci h A0 .int o) {self4 : Int32 → Int32 → (Nat → Int32) → (Nat → Nat → Int32) → Option (Int32 × MS)} (hself4 : ∀ (x1 : Int32) (x2 : Int32) (I : Nat → Int32) (A : Nat → Nat → Int32) (H : Heap) (locs : List Loc) (ls : Array Slot), self4 x1 x2 I A = some o → mH D cy ci h A0 s H locs I A → lv_has ls 11 [(0, .ref (h 0)), (1, .int x1), (2, .int x2)] → W p l e ({ frames := 1, cells := 0, slots := 0, locals := 21 } : Room) s m args below meth c H locs 0 0 Q (F0 m 4 ls [])) {self59 : Int32 → Int32 → Int32 → Int32 → Int32 → (Nat → Int32) → (Nat → Nat → Int32) → Option (Int32 × MS)} (hself59 : ∀ (x1 : Int32) (x2 : Int32) (x3 : Int32) (x4 : Int32) (x5 : Int32) (I : Nat → Int32) (A : Nat → Nat → Int32) (H : Heap) (locs : List Loc) (ls : Array Slot), self59 x1 x2 x3 x4 x5 I A = some o → mH D cy ci h A0 s H locs I A → lv_has ls 11 [(0, .ref (h 0)), (1, .int x1), (2, .int x2), (3, .int x3), (4, .int x4), (5, .int x5)] → W p l e ({ frames := 1, cells := 0, slots := 0, locals := 21 } : Room) s m args below meth c H locs 0 0 Q (F0 m 59 ls [])) {x1 : Int32} {x2 : Int32} {x3 : Int32} {x4 : Int32} {x5 : Int32} {I : Nat → Int32} {A : Nat → Nat → Int32} {H : Heap} {locs : List Loc} {ls : Array Slot} (hf : f_readRemarks_96 self4 self59 x1 x2 x3 x4 x5 I A = some o) (hM : mH D cy ci h A0 s H locs I A) (hl : lv_has ls 11 [(0, .ref (h 0)), (1, .int x1), (2, .int x2), (3, .int x3), (4, .int x4), (5, .int x5)]) : W p l e ({ frames := 1, cells := 0, slots := 0, locals := 21 } : Room) s m args below meth c H locs 0 0 Q (F0 m 96 ls []) := by
  obtain ⟨hx, hb, hml, hown, hts⟩ := id X
  unfold f_readRemarks_96 at hf
  refine lv_iload hx hb dX12_readRemarks_96 (lv_at hl 4 rfl) ?_
  refine lv_if_ne (tgt := 119) hx hb dX12_readRemarks_98 (by decide) (fun cc1 => ?_) (fun cc1 => ?_)
  · replace hf := m_ifF hf cc1
    exact w_readRemarks_119 X hret hself4 hself59 hf hM (lv_sub hl [0, 1, 2, 3, 4, 5] rfl)
  · replace hf := m_ifT hf cc1
    refine lv_aload_n hx hb dX12_readRemarks_101 rfl (lv_at hl 0 rfl) ?_
    obtain ⟨o1, ho, hf⟩ := m_clE hf
    refine m_callVi X hM (c_look ho) gX12_readRemarks_X12_look rfl ⟨rfl, rfl⟩ hd_look ⟨Nat.le_of_ble_eq_true rfl, Nat.le_of_ble_eq_true rfl⟩ rfl hl.1 rfl (Nat.le_of_ble_eq_true rfl) dX12_readRemarks_102 (fun H locs hM => ?_)
    clear ho
    refine lv_bipush (v := (125 : Int32)) hx hb dX12_readRemarks_105 (by decide) ?_
    refine lv_icmp_ne (tgt := 119) hx hb dX12_readRemarks_107 (by decide) (fun cc1 => ?_) (fun cc1 => ?_)
    · replace hf := m_ifF hf cc1
      exact w_readRemarks_119 X hret hself4 hself59 hf hM (lv_sub hl [0, 1, 2, 3, 4, 5] rfl)
    · replace hf := m_ifT hf cc1
      refine lv_iconst (v := (1 : Int32)) hx hb dX12_readRemarks_110 (by decide) ?_
      refine lv_aload_n hx hb dX12_readRemarks_111 rfl (lv_at hl 0 rfl) ?_
      refine m_get (v := .int (o1.2.1 37)) X hw_readRemarks hM 37 (by decide) fl_readRemarks_37 rfl dX12_readRemarks_112 ?_
      obtain ⟨o2, ho, hf⟩ := m_clE hf
      refine m_callSi X hM (c_fault ho) gX12_readRemarks_X12_fault rfl ⟨rfl, rfl⟩ hd_fault ⟨Nat.le_of_ble_eq_true rfl, Nat.le_of_ble_eq_true rfl⟩ rfl hl.1 rfl (Nat.le_of_ble_eq_true rfl) dX12_readRemarks_115 (fun H locs hM => ?_)
      clear ho
      cases hf
      exact hret H locs _ ls hM rfl dX12_readRemarks_118
noncomputable def f_readRemarks_59s (self4 : Int32 → Int32 → (Nat → Int32) → (Nat → Nat → Int32) → Option (Int32 × MS)) (self59 : Int32 → Int32 → Int32 → Int32 → Int32 → (Nat → Int32) → (Nat → Nat → Int32) → Option (Int32 × MS)) (x1 : Int32) (x2 : Int32) (x3 : Int32) (x4 : Int32) (x5 : Int32) (I : Nat → Int32) (A : Nat → Nat → Int32) : Option (Int32 × MS) :=
  m_if ((I 1) ≤ (I 37)) (
  f_readRemarks_132 self4 x1 x2 x3 x4 x5 I A
  ) (
  m_if (x4 = 0) (
  m_cl (f_look  I A) (fun r1 Ic1 Ac1 =>
  m_if (r1 = (10 : Int32)) (
  f_readRemarks_132 self4 x1 x2 x3 x4 x5 Ic1 Ac1
  ) (
  f_readRemarks_96 self4 self59 x1 x2 x3 x4 x5 Ic1 Ac1
  ))
  ) (
  m_cl (f_look  I A) (fun r2 Ic2 Ac2 =>
  m_if (r2 = (125 : Int32)) (
  f_readRemarks_132 self4 x1 x2 x3 x4 x5 Ic2 Ac2
  ) (
  f_readRemarks_96 self4 self59 x1 x2 x3 x4 x5 Ic2 Ac2
  ))
  )
  )

set_option maxRecDepth 100000 in
set_option maxHeartbeats 4000000 in
theorem ws_readRemarks_59 {p : Program} {l : Launch} {e : Env} {s : State} {m : MethodId} {args : Array Value} {below : List Frame} {meth : Method} {c : Code} {Q : State → Prop} {D : va_G} {cy ci : ClassId} {h : Nat → Nat} {A0 : Nat → Prop} {o : Int32 × MS} (X : CallFix p m c cX12_readRemarks 11 s args wsX12_readRemarks RX12) (hret : mRi p l e ({ frames := 1, cells := 0, slots := 0, locals := 21 } : Room) s m args below meth c Q cX12_readRemarks D cy ci h A0 .int o) {self4 : Int32 → Int32 → (Nat → Int32) → (Nat → Nat → Int32) → Option (Int32 × MS)} (hself4 : ∀ (x1 : Int32) (x2 : Int32) (I : Nat → Int32) (A : Nat → Nat → Int32) (H : Heap) (locs : List Loc) (ls : Array Slot), self4 x1 x2 I A = some o → mH D cy ci h A0 s H locs I A → lv_has ls 11 [(0, .ref (h 0)), (1, .int x1), (2, .int x2)] → W p l e ({ frames := 1, cells := 0, slots := 0, locals := 21 } : Room) s m args below meth c H locs 0 0 Q (F0 m 4 ls [])) {self59 : Int32 → Int32 → Int32 → Int32 → Int32 → (Nat → Int32) → (Nat → Nat → Int32) → Option (Int32 × MS)} (hself59 : ∀ (x1 : Int32) (x2 : Int32) (x3 : Int32) (x4 : Int32) (x5 : Int32) (I : Nat → Int32) (A : Nat → Nat → Int32) (H : Heap) (locs : List Loc) (ls : Array Slot), self59 x1 x2 x3 x4 x5 I A = some o → mH D cy ci h A0 s H locs I A → lv_has ls 11 [(0, .ref (h 0)), (1, .int x1), (2, .int x2), (3, .int x3), (4, .int x4), (5, .int x5)] → W p l e ({ frames := 1, cells := 0, slots := 0, locals := 21 } : Room) s m args below meth c H locs 0 0 Q (F0 m 59 ls [])) {x1 : Int32} {x2 : Int32} {x3 : Int32} {x4 : Int32} {x5 : Int32} {I : Nat → Int32} {A : Nat → Nat → Int32} {H : Heap} {locs : List Loc} {ls : Array Slot} (hf : f_readRemarks_59s self4 self59 x1 x2 x3 x4 x5 I A = some o) (hM : mH D cy ci h A0 s H locs I A) (hl : lv_has ls 11 [(0, .ref (h 0)), (1, .int x1), (2, .int x2), (3, .int x3), (4, .int x4), (5, .int x5)]) : W p l e ({ frames := 1, cells := 0, slots := 0, locals := 21 } : Room) s m args below meth c H locs 0 0 Q (F0 m 59 ls []) := by
  obtain ⟨hx, hb, hml, hown, hts⟩ := id X
  unfold f_readRemarks_59s at hf
  refine lv_aload_n hx hb dX12_readRemarks_59 rfl (lv_at hl 0 rfl) ?_
  refine m_get (v := .int (I 37)) X hw_readRemarks hM 37 (by decide) fl_readRemarks_37 rfl dX12_readRemarks_60 ?_
  refine lv_aload_n hx hb dX12_readRemarks_63 rfl (lv_at hl 0 rfl) ?_
  refine m_get (v := .int (I 1)) X hw_readRemarks hM 1 (by decide) fl_readRemarks_1 rfl dX12_readRemarks_64 ?_
  refine lv_icmp_ge (tgt := 132) hx hb dX12_readRemarks_67 (by decide) (fun cc1 => ?_) (fun cc1 => ?_)
  · replace hf := m_ifT hf cc1
    exact w_readRemarks_132 X hret hself4 hf hM (lv_sub hl [0, 1, 2, 3, 4, 5] rfl)
  · replace hf := m_ifF hf cc1
    refine lv_iload hx hb dX12_readRemarks_70 (lv_at hl 4 rfl) ?_
    refine lv_if_eq (tgt := 87) hx hb dX12_readRemarks_72 (by decide) (fun cc1 => ?_) (fun cc1 => ?_)
    · replace hf := m_ifT hf cc1
      refine lv_aload_n hx hb dX12_readRemarks_87 rfl (lv_at hl 0 rfl) ?_
      obtain ⟨o1, ho, hf⟩ := m_clE hf
      refine m_callVi X hM (c_look ho) gX12_readRemarks_X12_look rfl ⟨rfl, rfl⟩ hd_look ⟨Nat.le_of_ble_eq_true rfl, Nat.le_of_ble_eq_true rfl⟩ rfl hl.1 rfl (Nat.le_of_ble_eq_true rfl) dX12_readRemarks_88 (fun H locs hM => ?_)
      clear ho
      refine lv_bipush (v := (10 : Int32)) hx hb dX12_readRemarks_91 (by decide) ?_
      refine lv_icmp_eq (tgt := 132) hx hb dX12_readRemarks_93 (by decide) (fun cc1 => ?_) (fun cc1 => ?_)
      · replace hf := m_ifT hf cc1
        exact w_readRemarks_132 X hret hself4 hf hM (lv_sub hl [0, 1, 2, 3, 4, 5] rfl)
      · replace hf := m_ifF hf cc1
        exact w_readRemarks_96 X hret hself4 hself59 hf hM (lv_sub hl [0, 1, 2, 3, 4, 5] rfl)
    · replace hf := m_ifF hf cc1
      refine lv_aload_n hx hb dX12_readRemarks_75 rfl (lv_at hl 0 rfl) ?_
      obtain ⟨o2, ho, hf⟩ := m_clE hf
      refine m_callVi X hM (c_look ho) gX12_readRemarks_X12_look rfl ⟨rfl, rfl⟩ hd_look ⟨Nat.le_of_ble_eq_true rfl, Nat.le_of_ble_eq_true rfl⟩ rfl hl.1 rfl (Nat.le_of_ble_eq_true rfl) dX12_readRemarks_76 (fun H locs hM => ?_)
      clear ho
      refine lv_bipush (v := (125 : Int32)) hx hb dX12_readRemarks_79 (by decide) ?_
      refine lv_icmp_eq (tgt := 132) hx hb dX12_readRemarks_81 (by decide) (fun cc1 => ?_) (fun cc1 => ?_)
      · replace hf := m_ifT hf cc1
        exact w_readRemarks_132 X hret hself4 hf hM (lv_sub hl [0, 1, 2, 3, 4, 5] rfl)
      · replace hf := m_ifF hf cc1
        refine lv_goto (tgt := 96) hx hb dX12_readRemarks_84 (by decide) ?_
        exact w_readRemarks_96 X hret hself4 hself59 hf hM (lv_sub hl [0, 1, 2, 3, 4, 5] rfl)
noncomputable def f_readRemarks_59 (self4 : Int32 → Int32 → (Nat → Int32) → (Nat → Nat → Int32) → Option (Int32 × MS)) : Nat → Int32 → Int32 → Int32 → Int32 → Int32 → (Nat → Int32) → (Nat → Nat → Int32) → Option (Int32 × MS)
  | 0 => fun _ _ _ _ _ _ _ => none
  | n + 1 => f_readRemarks_59s self4 (f_readRemarks_59 self4 n)
theorem w_readRemarks_59 {p : Program} {l : Launch} {e : Env} {s : State} {m : MethodId} {args : Array Value} {below : List Frame} {meth : Method} {c : Code} {Q : State → Prop} {D : va_G} {cy ci : ClassId} {h : Nat → Nat} {A0 : Nat → Prop} {o : Int32 × MS} (X : CallFix p m c cX12_readRemarks 11 s args wsX12_readRemarks RX12) (hret : mRi p l e ({ frames := 1, cells := 0, slots := 0, locals := 21 } : Room) s m args below meth c Q cX12_readRemarks D cy ci h A0 .int o) {self4 : Int32 → Int32 → (Nat → Int32) → (Nat → Nat → Int32) → Option (Int32 × MS)} (hself4 : ∀ (x1 : Int32) (x2 : Int32) (I : Nat → Int32) (A : Nat → Nat → Int32) (H : Heap) (locs : List Loc) (ls : Array Slot), self4 x1 x2 I A = some o → mH D cy ci h A0 s H locs I A → lv_has ls 11 [(0, .ref (h 0)), (1, .int x1), (2, .int x2)] → W p l e ({ frames := 1, cells := 0, slots := 0, locals := 21 } : Room) s m args below meth c H locs 0 0 Q (F0 m 4 ls [])) (n : Nat) : ∀ (x1 : Int32) (x2 : Int32) (x3 : Int32) (x4 : Int32) (x5 : Int32) (I : Nat → Int32) (A : Nat → Nat → Int32) (H : Heap) (locs : List Loc) (ls : Array Slot), f_readRemarks_59 self4 n x1 x2 x3 x4 x5 I A = some o → mH D cy ci h A0 s H locs I A → lv_has ls 11 [(0, .ref (h 0)), (1, .int x1), (2, .int x2), (3, .int x3), (4, .int x4), (5, .int x5)] → W p l e ({ frames := 1, cells := 0, slots := 0, locals := 21 } : Room) s m args below meth c H locs 0 0 Q (F0 m 59 ls []) := by
  induction n with
  | zero => intro x1 x2 x3 x4 x5 I A H locs ls hf; cases hf
  | succ n ih => intro x1 x2 x3 x4 x5 I A H locs ls hf hM hl; exact ws_readRemarks_59 X hret hself4 (self59 := f_readRemarks_59 self4 n) ih hf hM hl
noncomputable def f_readRemarks_41 (self4 : Int32 → Int32 → (Nat → Int32) → (Nat → Nat → Int32) → Option (Int32 × MS)) (x1 : Int32) (x2 : Int32) (x3 : Int32) (t0 : Int32) (I : Nat → Int32) (A : Nat → Nat → Int32) : Option (Int32 × MS) :=
  m_bnd ((I 37) + (1 : Int32)) (fun v1 =>
  m_bnd (upd I 37 v1) (fun I2 =>
  f_readRemarks_59 self4 mFuel x1 x2 x3 t0 (I2 37) I2 A))

set_option maxRecDepth 100000 in
set_option maxHeartbeats 4000000 in
theorem w_readRemarks_41 {p : Program} {l : Launch} {e : Env} {s : State} {m : MethodId} {args : Array Value} {below : List Frame} {meth : Method} {c : Code} {Q : State → Prop} {D : va_G} {cy ci : ClassId} {h : Nat → Nat} {A0 : Nat → Prop} {o : Int32 × MS} (X : CallFix p m c cX12_readRemarks 11 s args wsX12_readRemarks RX12) (hret : mRi p l e ({ frames := 1, cells := 0, slots := 0, locals := 21 } : Room) s m args below meth c Q cX12_readRemarks D cy ci h A0 .int o) {self4 : Int32 → Int32 → (Nat → Int32) → (Nat → Nat → Int32) → Option (Int32 × MS)} (hself4 : ∀ (x1 : Int32) (x2 : Int32) (I : Nat → Int32) (A : Nat → Nat → Int32) (H : Heap) (locs : List Loc) (ls : Array Slot), self4 x1 x2 I A = some o → mH D cy ci h A0 s H locs I A → lv_has ls 11 [(0, .ref (h 0)), (1, .int x1), (2, .int x2)] → W p l e ({ frames := 1, cells := 0, slots := 0, locals := 21 } : Room) s m args below meth c H locs 0 0 Q (F0 m 4 ls [])) {x1 : Int32} {x2 : Int32} {x3 : Int32} {t0 : Int32} {I : Nat → Int32} {A : Nat → Nat → Int32} {H : Heap} {locs : List Loc} {ls : Array Slot} (hf : f_readRemarks_41 self4 x1 x2 x3 t0 I A = some o) (hM : mH D cy ci h A0 s H locs I A) (hl : lv_has ls 11 [(0, .ref (h 0)), (1, .int x1), (2, .int x2), (3, .int x3)]) : W p l e ({ frames := 1, cells := 0, slots := 0, locals := 21 } : Room) s m args below meth c H locs 0 0 Q (F0 m 41 ls [.int t0]) := by
  obtain ⟨hx, hb, hml, hown, hts⟩ := id X
  unfold f_readRemarks_41 at hf
  refine lv_istore (lv' := [(4, .int t0), (0, .ref (h 0)), (1, .int x1), (2, .int x2), (3, .int x3)]) hx hb dX12_readRemarks_41 hl (by decide) rfl (fun ls hl => ?_)
  refine lv_aload_n hx hb dX12_readRemarks_43 rfl (lv_at hl 1 rfl) ?_
  refine lv_dup hx hb dX12_readRemarks_44 rfl ?_
  refine m_get (v := .int (I 37)) X hw_readRemarks hM 37 (by decide) fl_readRemarks_37 rfl dX12_readRemarks_45 ?_
  refine lv_iconst (v := (1 : Int32)) hx hb dX12_readRemarks_48 (by decide) ?_
  refine lv_iadd hx hb dX12_readRemarks_49 ?_
  obtain ⟨v1, ev, hf⟩ := m_bndE hf
  refine m_top ev ?_
  clear ev
  refine m_put X hw_readRemarks hM 37 (by decide) fl_readRemarks_37 mi_37 rfl (tyX12_ok 37 (by decide)) dX12_readRemarks_50 (fun H locs hM => ?_)
  obtain ⟨I2, ev, hf⟩ := m_bndE hf
  replace hM := m_hI hM ev
  clear ev
  refine lv_aload_n hx hb dX12_readRemarks_53 rfl (lv_at hl 1 rfl) ?_
  refine m_get (v := .int (I2 37)) X hw_readRemarks hM 37 (by decide) fl_readRemarks_37 rfl dX12_readRemarks_54 ?_
  refine lv_istore (lv' := [(5, .int (I2 37)), (4, .int t0), (0, .ref (h 0)), (1, .int x1), (2, .int x2), (3, .int x3)]) hx hb dX12_readRemarks_57 hl (by decide) rfl (fun ls hl => ?_)
  exact w_readRemarks_59 X hret hself4 _ _ _ _ _ _ _ _ _ _ _ hf hM (lv_sub hl [2, 3, 4, 5, 1, 0] rfl)
noncomputable def f_readRemarks_22 (self4 : Int32 → Int32 → (Nat → Int32) → (Nat → Nat → Int32) → Option (Int32 × MS)) (x1 : Int32) (x2 : Int32) (I : Nat → Int32) (A : Nat → Nat → Int32) : Option (Int32 × MS) :=
  m_cl (f_look  I A) (fun r1 Ic1 Ac1 =>
  m_if (r1 = (123 : Int32)) (
  f_readRemarks_41 self4 x1 x2 (I 37) (1 : Int32) Ic1 Ac1
  ) (
  f_readRemarks_41 self4 x1 x2 (I 37) (0 : Int32) Ic1 Ac1
  ))

set_option maxRecDepth 100000 in
set_option maxHeartbeats 4000000 in
theorem w_readRemarks_22 {p : Program} {l : Launch} {e : Env} {s : State} {m : MethodId} {args : Array Value} {below : List Frame} {meth : Method} {c : Code} {Q : State → Prop} {D : va_G} {cy ci : ClassId} {h : Nat → Nat} {A0 : Nat → Prop} {o : Int32 × MS} (X : CallFix p m c cX12_readRemarks 11 s args wsX12_readRemarks RX12) (hret : mRi p l e ({ frames := 1, cells := 0, slots := 0, locals := 21 } : Room) s m args below meth c Q cX12_readRemarks D cy ci h A0 .int o) {self4 : Int32 → Int32 → (Nat → Int32) → (Nat → Nat → Int32) → Option (Int32 × MS)} (hself4 : ∀ (x1 : Int32) (x2 : Int32) (I : Nat → Int32) (A : Nat → Nat → Int32) (H : Heap) (locs : List Loc) (ls : Array Slot), self4 x1 x2 I A = some o → mH D cy ci h A0 s H locs I A → lv_has ls 11 [(0, .ref (h 0)), (1, .int x1), (2, .int x2)] → W p l e ({ frames := 1, cells := 0, slots := 0, locals := 21 } : Room) s m args below meth c H locs 0 0 Q (F0 m 4 ls [])) {x1 : Int32} {x2 : Int32} {I : Nat → Int32} {A : Nat → Nat → Int32} {H : Heap} {locs : List Loc} {ls : Array Slot} (hf : f_readRemarks_22 self4 x1 x2 I A = some o) (hM : mH D cy ci h A0 s H locs I A) (hl : lv_has ls 11 [(0, .ref (h 0)), (1, .int x1), (2, .int x2)]) : W p l e ({ frames := 1, cells := 0, slots := 0, locals := 21 } : Room) s m args below meth c H locs 0 0 Q (F0 m 22 ls []) := by
  obtain ⟨hx, hb, hml, hown, hts⟩ := id X
  unfold f_readRemarks_22 at hf
  refine lv_aload_n hx hb dX12_readRemarks_22 rfl (lv_at hl 0 rfl) ?_
  refine m_get (v := .int (I 37)) X hw_readRemarks hM 37 (by decide) fl_readRemarks_37 rfl dX12_readRemarks_23 ?_
  refine lv_istore_n (lv' := [(3, .int (I 37)), (0, .ref (h 0)), (1, .int x1), (2, .int x2)]) hx hb dX12_readRemarks_26 rfl hl (by decide) rfl (fun ls hl => ?_)
  refine lv_aload_n hx hb dX12_readRemarks_27 rfl (lv_at hl 1 rfl) ?_
  obtain ⟨o1, ho, hf⟩ := m_clE hf
  refine m_callVi X hM (c_look ho) gX12_readRemarks_X12_look rfl ⟨rfl, rfl⟩ hd_look ⟨Nat.le_of_ble_eq_true rfl, Nat.le_of_ble_eq_true rfl⟩ rfl hl.1 rfl (Nat.le_of_ble_eq_true rfl) dX12_readRemarks_28 (fun H locs hM => ?_)
  clear ho
  refine lv_bipush (v := (123 : Int32)) hx hb dX12_readRemarks_31 (by decide) ?_
  refine lv_icmp_ne (tgt := 40) hx hb dX12_readRemarks_33 (by decide) (fun cc1 => ?_) (fun cc1 => ?_)
  · replace hf := m_ifF hf cc1
    refine lv_iconst (v := (0 : Int32)) hx hb dX12_readRemarks_40 (by decide) ?_
    exact w_readRemarks_41 X hret hself4 hf hM (lv_sub hl [1, 2, 3, 0] rfl)
  · replace hf := m_ifT hf cc1
    refine lv_iconst (v := (1 : Int32)) hx hb dX12_readRemarks_36 (by decide) ?_
    refine lv_goto (tgt := 41) hx hb dX12_readRemarks_37 (by decide) ?_
    exact w_readRemarks_41 X hret hself4 hf hM (lv_sub hl [1, 2, 3, 0] rfl)
noncomputable def f_readRemarks_4s (self4 : Int32 → Int32 → (Nat → Int32) → (Nat → Nat → Int32) → Option (Int32 × MS)) (x1 : Int32) (x2 : Int32) (I : Nat → Int32) (A : Nat → Nat → Int32) : Option (Int32 × MS) :=
  m_cl (f_look  I A) (fun r1 Ic1 Ac1 =>
  m_if (r1 = (123 : Int32)) (
  f_readRemarks_22 self4 x1 x2 Ic1 Ac1
  ) (
  m_cl (f_look  Ic1 Ac1) (fun r2 Ic2 Ac2 =>
  m_if (r2 = (59 : Int32)) (
  f_readRemarks_22 self4 x1 x2 Ic2 Ac2
  ) (
  some ((0 : Int32), (Ic2, Ac2))
  ))
  ))

set_option maxRecDepth 100000 in
set_option maxHeartbeats 4000000 in
theorem ws_readRemarks_4 {p : Program} {l : Launch} {e : Env} {s : State} {m : MethodId} {args : Array Value} {below : List Frame} {meth : Method} {c : Code} {Q : State → Prop} {D : va_G} {cy ci : ClassId} {h : Nat → Nat} {A0 : Nat → Prop} {o : Int32 × MS} (X : CallFix p m c cX12_readRemarks 11 s args wsX12_readRemarks RX12) (hret : mRi p l e ({ frames := 1, cells := 0, slots := 0, locals := 21 } : Room) s m args below meth c Q cX12_readRemarks D cy ci h A0 .int o) {self4 : Int32 → Int32 → (Nat → Int32) → (Nat → Nat → Int32) → Option (Int32 × MS)} (hself4 : ∀ (x1 : Int32) (x2 : Int32) (I : Nat → Int32) (A : Nat → Nat → Int32) (H : Heap) (locs : List Loc) (ls : Array Slot), self4 x1 x2 I A = some o → mH D cy ci h A0 s H locs I A → lv_has ls 11 [(0, .ref (h 0)), (1, .int x1), (2, .int x2)] → W p l e ({ frames := 1, cells := 0, slots := 0, locals := 21 } : Room) s m args below meth c H locs 0 0 Q (F0 m 4 ls [])) {x1 : Int32} {x2 : Int32} {I : Nat → Int32} {A : Nat → Nat → Int32} {H : Heap} {locs : List Loc} {ls : Array Slot} (hf : f_readRemarks_4s self4 x1 x2 I A = some o) (hM : mH D cy ci h A0 s H locs I A) (hl : lv_has ls 11 [(0, .ref (h 0)), (1, .int x1), (2, .int x2)]) : W p l e ({ frames := 1, cells := 0, slots := 0, locals := 21 } : Room) s m args below meth c H locs 0 0 Q (F0 m 4 ls []) := by
  obtain ⟨hx, hb, hml, hown, hts⟩ := id X
  unfold f_readRemarks_4s at hf
  refine lv_aload_n hx hb dX12_readRemarks_4 rfl (lv_at hl 0 rfl) ?_
  obtain ⟨o1, ho, hf⟩ := m_clE hf
  refine m_callVi X hM (c_look ho) gX12_readRemarks_X12_look rfl ⟨rfl, rfl⟩ hd_look ⟨Nat.le_of_ble_eq_true rfl, Nat.le_of_ble_eq_true rfl⟩ rfl hl.1 rfl (Nat.le_of_ble_eq_true rfl) dX12_readRemarks_5 (fun H locs hM => ?_)
  clear ho
  refine lv_bipush (v := (123 : Int32)) hx hb dX12_readRemarks_8 (by decide) ?_
  refine lv_icmp_eq (tgt := 22) hx hb dX12_readRemarks_10 (by decide) (fun cc1 => ?_) (fun cc1 => ?_)
  · replace hf := m_ifT hf cc1
    exact w_readRemarks_22 X hret hself4 hf hM (lv_sub hl [0, 1, 2] rfl)
  · replace hf := m_ifF hf cc1
    refine lv_aload_n hx hb dX12_readRemarks_13 rfl (lv_at hl 0 rfl) ?_
    obtain ⟨o2, ho, hf⟩ := m_clE hf
    refine m_callVi X hM (c_look ho) gX12_readRemarks_X12_look rfl ⟨rfl, rfl⟩ hd_look ⟨Nat.le_of_ble_eq_true rfl, Nat.le_of_ble_eq_true rfl⟩ rfl hl.1 rfl (Nat.le_of_ble_eq_true rfl) dX12_readRemarks_14 (fun H locs hM => ?_)
    clear ho
    refine lv_bipush (v := (59 : Int32)) hx hb dX12_readRemarks_17 (by decide) ?_
    refine lv_icmp_ne (tgt := 354) hx hb dX12_readRemarks_19 (by decide) (fun cc1 => ?_) (fun cc1 => ?_)
    · replace hf := m_ifF hf cc1
      refine lv_iconst (v := (0 : Int32)) hx hb dX12_readRemarks_354 (by decide) ?_
      cases hf
      exact hret H locs _ ls hM rfl dX12_readRemarks_355
    · replace hf := m_ifT hf cc1
      exact w_readRemarks_22 X hret hself4 hf hM (lv_sub hl [0, 1, 2] rfl)
noncomputable def f_readRemarks_4 : Nat → Int32 → Int32 → (Nat → Int32) → (Nat → Nat → Int32) → Option (Int32 × MS)
  | 0 => fun _ _ _ _ => none
  | n + 1 => f_readRemarks_4s (f_readRemarks_4 n)
theorem w_readRemarks_4 {p : Program} {l : Launch} {e : Env} {s : State} {m : MethodId} {args : Array Value} {below : List Frame} {meth : Method} {c : Code} {Q : State → Prop} {D : va_G} {cy ci : ClassId} {h : Nat → Nat} {A0 : Nat → Prop} {o : Int32 × MS} (X : CallFix p m c cX12_readRemarks 11 s args wsX12_readRemarks RX12) (hret : mRi p l e ({ frames := 1, cells := 0, slots := 0, locals := 21 } : Room) s m args below meth c Q cX12_readRemarks D cy ci h A0 .int o) (n : Nat) : ∀ (x1 : Int32) (x2 : Int32) (I : Nat → Int32) (A : Nat → Nat → Int32) (H : Heap) (locs : List Loc) (ls : Array Slot), f_readRemarks_4 n x1 x2 I A = some o → mH D cy ci h A0 s H locs I A → lv_has ls 11 [(0, .ref (h 0)), (1, .int x1), (2, .int x2)] → W p l e ({ frames := 1, cells := 0, slots := 0, locals := 21 } : Room) s m args below meth c H locs 0 0 Q (F0 m 4 ls []) := by
  induction n with
  | zero => intro x1 x2 I A H locs ls hf; cases hf
  | succ n ih => intro x1 x2 I A H locs ls hf hM hl; exact ws_readRemarks_4 X hret (self4 := f_readRemarks_4 n) ih hf hM hl
noncomputable def f_readRemarks_0 (x1 : Int32) (x2 : Int32) (I : Nat → Int32) (A : Nat → Nat → Int32) : Option (Int32 × MS) :=
  m_cl (f_blanks  I A) (fun r1 Ic1 Ac1 =>
  f_readRemarks_4 mFuel x1 x2 Ic1 Ac1)

set_option maxRecDepth 100000 in
set_option maxHeartbeats 4000000 in
theorem w_readRemarks_0 {p : Program} {l : Launch} {e : Env} {s : State} {m : MethodId} {args : Array Value} {below : List Frame} {meth : Method} {c : Code} {Q : State → Prop} {D : va_G} {cy ci : ClassId} {h : Nat → Nat} {A0 : Nat → Prop} {o : Int32 × MS} (X : CallFix p m c cX12_readRemarks 11 s args wsX12_readRemarks RX12) (hret : mRi p l e ({ frames := 1, cells := 0, slots := 0, locals := 21 } : Room) s m args below meth c Q cX12_readRemarks D cy ci h A0 .int o) {x1 : Int32} {x2 : Int32} {I : Nat → Int32} {A : Nat → Nat → Int32} {H : Heap} {locs : List Loc} {ls : Array Slot} (hf : f_readRemarks_0 x1 x2 I A = some o) (hM : mH D cy ci h A0 s H locs I A) (hl : lv_has ls 11 [(0, .ref (h 0)), (1, .int x1), (2, .int x2)]) : W p l e ({ frames := 1, cells := 0, slots := 0, locals := 21 } : Room) s m args below meth c H locs 0 0 Q (F0 m 0 ls []) := by
  obtain ⟨hx, hb, hml, hown, hts⟩ := id X
  unfold f_readRemarks_0 at hf
  refine lv_aload_n hx hb dX12_readRemarks_0 rfl (lv_at hl 0 rfl) ?_
  obtain ⟨o1, ho, hf⟩ := m_clE hf
  refine m_callVv X hM (c_blanks ho) gX12_readRemarks_X12_blanks rfl ⟨rfl, rfl⟩ hd_blanks ⟨Nat.le_of_ble_eq_true rfl, Nat.le_of_ble_eq_true rfl⟩ rfl hl.1 rfl (Nat.le_of_ble_eq_true rfl) dX12_readRemarks_1 (fun H locs hM => ?_)
  clear ho
  exact w_readRemarks_4 X hret _ _ _ _ _ _ _ _ hf hM (lv_sub hl [0, 1, 2] rfl)
noncomputable def f_readRemarks (x1 : Int32) (x2 : Int32) (I : Nat → Int32) (A : Nat → Nat → Int32) : Option (Int32 × MS) := f_readRemarks_0 x1 x2 I A
theorem c_readRemarks {l : Launch} {D : va_G} {cy ci : ClassId} {h : Nat → Nat} {x1 : Int32} {x2 : Int32} {I : Nat → Int32} {A : Nat → Nat → Int32} {o : Int32 × MS} (hf : f_readRemarks x1 x2 I A = some o) : mMi l yX12_readRemarks wsX12_readRemarks ({ frames := 1, cells := 0, slots := 0, locals := 21 } : Room) [.ref (h 0), .int x1, .int x2] D cy ci h I A o :=
  m_entryI (cc := cX12_readRemarks) (maxL := 11) (by decide) rfl rfl (Nat.le_of_ble_eq_true rfl) (fun p e s m args below meth c A0 Q H locs ls X hret hM hl => w_readRemarks_0 X hret hf hM (lv_sub hl [0, 1, 2] rfl))
theorem hw_goesOnWith : ∀ w ∈ wsX120, w ∈ wsX12_goesOnWith := by decide +kernel
theorem fl_goesOnWith_1 : Cond.fieldLink RX12 270 "MoveTextsModel" "typed" "I" ∈ wsX12_goesOnWith := by decide +kernel
theorem fl_goesOnWith_2 : Cond.fieldLink RX12 7 "MoveTextsModel" "text" "[C" ∈ wsX12_goesOnWith := by decide +kernel
theorem fl_goesOnWith_37 : Cond.fieldLink RX12 267 "MoveTextsModel" "at" "I" ∈ wsX12_goesOnWith := by decide +kernel
theorem hd_goesOnWith : yX12_goesOnWith.cls = RX12 ∧ yX12_goesOnWith.cls ≠ "java/lang/invoke/MethodHandle" ∧ yX12_goesOnWith.cls ≠ "java/lang/invoke/VarHandle" ∧ (parseMethodDescriptor yX12_goesOnWith.desc).map (fun d => d.parameters.length) = some 3 := by decide +kernel
noncomputable def f_goesOnWith_61 (t0 : Int32) (I : Nat → Int32) (A : Nat → Nat → Int32) : Option (Int32 × MS) :=
  m_chk (vp_nar .boolean t0 = t0) (some (t0, (I, A)))

set_option maxRecDepth 100000 in
set_option maxHeartbeats 4000000 in
theorem w_goesOnWith_61 {p : Program} {l : Launch} {e : Env} {s : State} {m : MethodId} {args : Array Value} {below : List Frame} {meth : Method} {c : Code} {Q : State → Prop} {D : va_G} {cy ci : ClassId} {h : Nat → Nat} {A0 : Nat → Prop} {o : Int32 × MS} (X : CallFix p m c cX12_goesOnWith 4 s args wsX12_goesOnWith RX12) (hret : mRi p l e ({ frames := 0, cells := 0, slots := 0, locals := 0 } : Room) s m args below meth c Q cX12_goesOnWith D cy ci h A0 .boolean o) {t0 : Int32} {I : Nat → Int32} {A : Nat → Nat → Int32} {H : Heap} {locs : List Loc} {ls : Array Slot} (hf : f_goesOnWith_61 t0 I A = some o) (hM : mH D cy ci h A0 s H locs I A) (hl : lv_has ls 4 []) : W p l e ({ frames := 0, cells := 0, slots := 0, locals := 0 } : Room) s m args below meth c H locs 0 0 Q (F0 m 61 ls [.int t0]) := by
  obtain ⟨hx, hb, hml, hown, hts⟩ := id X
  unfold f_goesOnWith_61 at hf
  obtain ⟨cd, hf⟩ := m_chkE hf
  cases hf
  exact hret H locs _ ls hM (m_nb cd) dX12_goesOnWith_61
noncomputable def f_goesOnWith_60 (I : Nat → Int32) (A : Nat → Nat → Int32) : Option (Int32 × MS) :=
  f_goesOnWith_61 (0 : Int32) I A

set_option maxRecDepth 100000 in
set_option maxHeartbeats 4000000 in
theorem w_goesOnWith_60 {p : Program} {l : Launch} {e : Env} {s : State} {m : MethodId} {args : Array Value} {below : List Frame} {meth : Method} {c : Code} {Q : State → Prop} {D : va_G} {cy ci : ClassId} {h : Nat → Nat} {A0 : Nat → Prop} {o : Int32 × MS} (X : CallFix p m c cX12_goesOnWith 4 s args wsX12_goesOnWith RX12) (hret : mRi p l e ({ frames := 0, cells := 0, slots := 0, locals := 0 } : Room) s m args below meth c Q cX12_goesOnWith D cy ci h A0 .boolean o) {I : Nat → Int32} {A : Nat → Nat → Int32} {H : Heap} {locs : List Loc} {ls : Array Slot} (hf : f_goesOnWith_60  I A = some o) (hM : mH D cy ci h A0 s H locs I A) (hl : lv_has ls 4 []) : W p l e ({ frames := 0, cells := 0, slots := 0, locals := 0 } : Room) s m args below meth c H locs 0 0 Q (F0 m 60 ls []) := by
  obtain ⟨hx, hb, hml, hown, hts⟩ := id X
  unfold f_goesOnWith_60 at hf
  refine lv_iconst (v := (0 : Int32)) hx hb dX12_goesOnWith_60 (by decide) ?_
  exact w_goesOnWith_61 X hret hf hM (lv_sub hl [] rfl)
noncomputable def f_goesOnWith_0 (x1 : Int32) (x2 : Int32) (x3 : Int32) (I : Nat → Int32) (A : Nat → Nat → Int32) : Option (Int32 × MS) :=
  m_bnd ((I 37) + (2 : Int32)) (fun v1 =>
  m_if ((I 1) ≤ v1) (
  f_goesOnWith_60  I A
  ) (
  m_chk (¬ ((I 37) < 0 ∨ 2000 ≤ ((I 37)).toNatClampNeg)) (
  m_bnd (A 2 ((I 37)).toNatClampNeg) (fun v2 =>
  m_if (v2 = x1) (
  m_bnd ((I 37) + (1 : Int32)) (fun v3 =>
  m_chk (¬ (v3 < 0 ∨ 2000 ≤ (v3).toNatClampNeg)) (
  m_bnd (A 2 (v3).toNatClampNeg) (fun v4 =>
  m_if (v4 = x2) (
  m_bnd ((I 37) + (2 : Int32)) (fun v5 =>
  m_chk (¬ (v5 < 0 ∨ 2000 ≤ (v5).toNatClampNeg)) (
  m_bnd (A 2 (v5).toNatClampNeg) (fun v6 =>
  m_if (v6 = x3) (
  f_goesOnWith_61 (1 : Int32) I A
  ) (
  f_goesOnWith_60  I A
  ))))
  ) (
  f_goesOnWith_60  I A
  ))))
  ) (
  f_goesOnWith_60  I A
  )))
  ))

set_option maxRecDepth 100000 in
set_option maxHeartbeats 4000000 in
theorem w_goesOnWith_0 {p : Program} {l : Launch} {e : Env} {s : State} {m : MethodId} {args : Array Value} {below : List Frame} {meth : Method} {c : Code} {Q : State → Prop} {D : va_G} {cy ci : ClassId} {h : Nat → Nat} {A0 : Nat → Prop} {o : Int32 × MS} (X : CallFix p m c cX12_goesOnWith 4 s args wsX12_goesOnWith RX12) (hret : mRi p l e ({ frames := 0, cells := 0, slots := 0, locals := 0 } : Room) s m args below meth c Q cX12_goesOnWith D cy ci h A0 .boolean o) {x1 : Int32} {x2 : Int32} {x3 : Int32} {I : Nat → Int32} {A : Nat → Nat → Int32} {H : Heap} {locs : List Loc} {ls : Array Slot} (hf : f_goesOnWith_0 x1 x2 x3 I A = some o) (hM : mH D cy ci h A0 s H locs I A) (hl : lv_has ls 4 [(0, .ref (h 0)), (1, .int x1), (2, .int x2), (3, .int x3)]) : W p l e ({ frames := 0, cells := 0, slots := 0, locals := 0 } : Room) s m args below meth c H locs 0 0 Q (F0 m 0 ls []) := by
  obtain ⟨hx, hb, hml, hown, hts⟩ := id X
  unfold f_goesOnWith_0 at hf
  refine lv_aload_n hx hb dX12_goesOnWith_0 rfl (lv_at hl 0 rfl) ?_
  refine m_get (v := .int (I 37)) X hw_goesOnWith hM 37 (by decide) fl_goesOnWith_37 rfl dX12_goesOnWith_1 ?_
  refine lv_iconst (v := (2 : Int32)) hx hb dX12_goesOnWith_4 (by decide) ?_
  refine lv_iadd hx hb dX12_goesOnWith_5 ?_
  obtain ⟨v1, ev, hf⟩ := m_bndE hf
  refine m_top ev ?_
  clear ev
  refine lv_aload_n hx hb dX12_goesOnWith_6 rfl (lv_at hl 0 rfl) ?_
  refine m_get (v := .int (I 1)) X hw_goesOnWith hM 1 (by decide) fl_goesOnWith_1 rfl dX12_goesOnWith_7 ?_
  refine lv_icmp_ge (tgt := 60) hx hb dX12_goesOnWith_10 (by decide) (fun cc1 => ?_) (fun cc1 => ?_)
  · replace hf := m_ifT hf cc1
    exact w_goesOnWith_60 X hret hf hM (lv_sub hl [] rfl)
  · replace hf := m_ifF hf cc1
    refine lv_aload_n hx hb dX12_goesOnWith_13 rfl (lv_at hl 0 rfl) ?_
    refine m_get (v := .ref (h 2)) X hw_goesOnWith hM 2 (by decide) fl_goesOnWith_2 rfl dX12_goesOnWith_14 ?_
    refine lv_aload_n hx hb dX12_goesOnWith_17 rfl (lv_at hl 0 rfl) ?_
    refine m_get (v := .int (I 37)) X hw_goesOnWith hM 37 (by decide) fl_goesOnWith_37 rfl dX12_goesOnWith_18 ?_
    obtain ⟨cd, hf⟩ := m_chkE hf
    refine m_cald X hM 2 1 2000 rfl cd dX12_goesOnWith_21 ?_
    clear cd
    obtain ⟨v2, ev, hf⟩ := m_bndE hf
    refine m_top ev ?_
    clear ev
    refine lv_iload_n hx hb dX12_goesOnWith_22 rfl (lv_at hl 1 rfl) ?_
    refine lv_icmp_ne (tgt := 60) hx hb dX12_goesOnWith_23 (by decide) (fun cc1 => ?_) (fun cc1 => ?_)
    · replace hf := m_ifF hf cc1
      exact w_goesOnWith_60 X hret hf hM (lv_sub hl [] rfl)
    · replace hf := m_ifT hf cc1
      refine lv_aload_n hx hb dX12_goesOnWith_26 rfl (lv_at hl 0 rfl) ?_
      refine m_get (v := .ref (h 2)) X hw_goesOnWith hM 2 (by decide) fl_goesOnWith_2 rfl dX12_goesOnWith_27 ?_
      refine lv_aload_n hx hb dX12_goesOnWith_30 rfl (lv_at hl 0 rfl) ?_
      refine m_get (v := .int (I 37)) X hw_goesOnWith hM 37 (by decide) fl_goesOnWith_37 rfl dX12_goesOnWith_31 ?_
      refine lv_iconst (v := (1 : Int32)) hx hb dX12_goesOnWith_34 (by decide) ?_
      refine lv_iadd hx hb dX12_goesOnWith_35 ?_
      obtain ⟨v3, ev, hf⟩ := m_bndE hf
      refine m_top ev ?_
      clear ev
      obtain ⟨cd, hf⟩ := m_chkE hf
      refine m_cald X hM 2 1 2000 rfl cd dX12_goesOnWith_36 ?_
      clear cd
      obtain ⟨v4, ev, hf⟩ := m_bndE hf
      refine m_top ev ?_
      clear ev
      refine lv_iload_n hx hb dX12_goesOnWith_37 rfl (lv_at hl 2 rfl) ?_
      refine lv_icmp_ne (tgt := 60) hx hb dX12_goesOnWith_38 (by decide) (fun cc1 => ?_) (fun cc1 => ?_)
      · replace hf := m_ifF hf cc1
        exact w_goesOnWith_60 X hret hf hM (lv_sub hl [] rfl)
      · replace hf := m_ifT hf cc1
        refine lv_aload_n hx hb dX12_goesOnWith_41 rfl (lv_at hl 0 rfl) ?_
        refine m_get (v := .ref (h 2)) X hw_goesOnWith hM 2 (by decide) fl_goesOnWith_2 rfl dX12_goesOnWith_42 ?_
        refine lv_aload_n hx hb dX12_goesOnWith_45 rfl (lv_at hl 0 rfl) ?_
        refine m_get (v := .int (I 37)) X hw_goesOnWith hM 37 (by decide) fl_goesOnWith_37 rfl dX12_goesOnWith_46 ?_
        refine lv_iconst (v := (2 : Int32)) hx hb dX12_goesOnWith_49 (by decide) ?_
        refine lv_iadd hx hb dX12_goesOnWith_50 ?_
        obtain ⟨v5, ev, hf⟩ := m_bndE hf
        refine m_top ev ?_
        clear ev
        obtain ⟨cd, hf⟩ := m_chkE hf
        refine m_cald X hM 2 1 2000 rfl cd dX12_goesOnWith_51 ?_
        clear cd
        obtain ⟨v6, ev, hf⟩ := m_bndE hf
        refine m_top ev ?_
        clear ev
        refine lv_iload_n hx hb dX12_goesOnWith_52 rfl (lv_at hl 3 rfl) ?_
        refine lv_icmp_ne (tgt := 60) hx hb dX12_goesOnWith_53 (by decide) (fun cc1 => ?_) (fun cc1 => ?_)
        · replace hf := m_ifF hf cc1
          exact w_goesOnWith_60 X hret hf hM (lv_sub hl [] rfl)
        · replace hf := m_ifT hf cc1
          refine lv_iconst (v := (1 : Int32)) hx hb dX12_goesOnWith_56 (by decide) ?_
          refine lv_goto (tgt := 61) hx hb dX12_goesOnWith_57 (by decide) ?_
          exact w_goesOnWith_61 X hret hf hM (lv_sub hl [] rfl)
noncomputable def f_goesOnWith (x1 : Int32) (x2 : Int32) (x3 : Int32) (I : Nat → Int32) (A : Nat → Nat → Int32) : Option (Int32 × MS) := f_goesOnWith_0 x1 x2 x3 I A
theorem c_goesOnWith {l : Launch} {D : va_G} {cy ci : ClassId} {h : Nat → Nat} {x1 : Int32} {x2 : Int32} {x3 : Int32} {I : Nat → Int32} {A : Nat → Nat → Int32} {o : Int32 × MS} (hf : f_goesOnWith x1 x2 x3 I A = some o) : mMi l yX12_goesOnWith wsX12_goesOnWith ({ frames := 0, cells := 0, slots := 0, locals := 0 } : Room) [.ref (h 0), .int x1, .int x2, .int x3] D cy ci h I A o :=
  m_entryI (cc := cX12_goesOnWith) (maxL := 4) (by decide) rfl rfl (Nat.le_of_ble_eq_true rfl) (fun p e s m args below meth c A0 Q H locs ls X hret hM hl => w_goesOnWith_0 X hret hf hM (lv_sub hl [0, 1, 2, 3] rfl))
theorem hw_resultHere : ∀ w ∈ wsX120, w ∈ wsX12_resultHere := by decide +kernel
theorem fl_resultHere_1 : Cond.fieldLink RX12 270 "MoveTextsModel" "typed" "I" ∈ wsX12_resultHere := by decide +kernel
theorem fl_resultHere_2 : Cond.fieldLink RX12 7 "MoveTextsModel" "text" "[C" ∈ wsX12_resultHere := by decide +kernel
theorem fl_resultHere_37 : Cond.fieldLink RX12 267 "MoveTextsModel" "at" "I" ∈ wsX12_resultHere := by decide +kernel
theorem hd_resultHere : yX12_resultHere.cls = RX12 ∧ yX12_resultHere.cls ≠ "java/lang/invoke/MethodHandle" ∧ yX12_resultHere.cls ≠ "java/lang/invoke/VarHandle" ∧ (parseMethodDescriptor yX12_resultHere.desc).map (fun d => d.parameters.length) = some 0 := by decide +kernel
noncomputable def f_resultHere_148 (t0 : Int32) (I : Nat → Int32) (A : Nat → Nat → Int32) : Option (Int32 × MS) :=
  some (t0, (I, A))

set_option maxRecDepth 100000 in
set_option maxHeartbeats 4000000 in
theorem w_resultHere_148 {p : Program} {l : Launch} {e : Env} {s : State} {m : MethodId} {args : Array Value} {below : List Frame} {meth : Method} {c : Code} {Q : State → Prop} {D : va_G} {cy ci : ClassId} {h : Nat → Nat} {A0 : Nat → Prop} {o : Int32 × MS} (X : CallFix p m c cX12_resultHere 2 s args wsX12_resultHere RX12) (hret : mRi p l e ({ frames := 1, cells := 0, slots := 0, locals := 23 } : Room) s m args below meth c Q cX12_resultHere D cy ci h A0 .int o) {t0 : Int32} {I : Nat → Int32} {A : Nat → Nat → Int32} {H : Heap} {locs : List Loc} {ls : Array Slot} (hf : f_resultHere_148 t0 I A = some o) (hM : mH D cy ci h A0 s H locs I A) (hl : lv_has ls 2 []) : W p l e ({ frames := 1, cells := 0, slots := 0, locals := 23 } : Room) s m args below meth c H locs 0 0 Q (F0 m 148 ls [.int t0]) := by
  obtain ⟨hx, hb, hml, hown, hts⟩ := id X
  unfold f_resultHere_148 at hf
  cases hf
  exact hret H locs _ ls hM rfl dX12_resultHere_148
noncomputable def f_resultHere_138 (t0 : Int32) (I : Nat → Int32) (A : Nat → Nat → Int32) : Option (Int32 × MS) :=
  m_if (t0 = 0) (
  f_resultHere_148 (-1 : Int32) I A
  ) (
  f_resultHere_148 (3 : Int32) I A
  )

set_option maxRecDepth 100000 in
set_option maxHeartbeats 4000000 in
theorem w_resultHere_138 {p : Program} {l : Launch} {e : Env} {s : State} {m : MethodId} {args : Array Value} {below : List Frame} {meth : Method} {c : Code} {Q : State → Prop} {D : va_G} {cy ci : ClassId} {h : Nat → Nat} {A0 : Nat → Prop} {o : Int32 × MS} (X : CallFix p m c cX12_resultHere 2 s args wsX12_resultHere RX12) (hret : mRi p l e ({ frames := 1, cells := 0, slots := 0, locals := 23 } : Room) s m args below meth c Q cX12_resultHere D cy ci h A0 .int o) {t0 : Int32} {I : Nat → Int32} {A : Nat → Nat → Int32} {H : Heap} {locs : List Loc} {ls : Array Slot} (hf : f_resultHere_138 t0 I A = some o) (hM : mH D cy ci h A0 s H locs I A) (hl : lv_has ls 2 []) : W p l e ({ frames := 1, cells := 0, slots := 0, locals := 23 } : Room) s m args below meth c H locs 0 0 Q (F0 m 138 ls [.int t0]) := by
  obtain ⟨hx, hb, hml, hown, hts⟩ := id X
  unfold f_resultHere_138 at hf
  refine lv_istore_n (lv' := [(1, .int t0)]) hx hb dX12_resultHere_138 rfl hl (by decide) rfl (fun ls hl => ?_)
  refine lv_iload_n hx hb dX12_resultHere_139 rfl (lv_at hl 0 rfl) ?_
  refine lv_if_eq (tgt := 147) hx hb dX12_resultHere_140 (by decide) (fun cc1 => ?_) (fun cc1 => ?_)
  · replace hf := m_ifT hf cc1
    refine lv_iconst (v := (-1 : Int32)) hx hb dX12_resultHere_147 (by decide) ?_
    exact w_resultHere_148 X hret hf hM (lv_sub hl [] rfl)
  · replace hf := m_ifF hf cc1
    refine lv_iconst (v := (3 : Int32)) hx hb dX12_resultHere_143 (by decide) ?_
    refine lv_goto (tgt := 148) hx hb dX12_resultHere_144 (by decide) ?_
    exact w_resultHere_148 X hret hf hM (lv_sub hl [] rfl)
noncomputable def f_resultHere_137 (I : Nat → Int32) (A : Nat → Nat → Int32) : Option (Int32 × MS) :=
  f_resultHere_138 (0 : Int32) I A

set_option maxRecDepth 100000 in
set_option maxHeartbeats 4000000 in
theorem w_resultHere_137 {p : Program} {l : Launch} {e : Env} {s : State} {m : MethodId} {args : Array Value} {below : List Frame} {meth : Method} {c : Code} {Q : State → Prop} {D : va_G} {cy ci : ClassId} {h : Nat → Nat} {A0 : Nat → Prop} {o : Int32 × MS} (X : CallFix p m c cX12_resultHere 2 s args wsX12_resultHere RX12) (hret : mRi p l e ({ frames := 1, cells := 0, slots := 0, locals := 23 } : Room) s m args below meth c Q cX12_resultHere D cy ci h A0 .int o) {I : Nat → Int32} {A : Nat → Nat → Int32} {H : Heap} {locs : List Loc} {ls : Array Slot} (hf : f_resultHere_137  I A = some o) (hM : mH D cy ci h A0 s H locs I A) (hl : lv_has ls 2 []) : W p l e ({ frames := 1, cells := 0, slots := 0, locals := 23 } : Room) s m args below meth c H locs 0 0 Q (F0 m 137 ls []) := by
  obtain ⟨hx, hb, hml, hown, hts⟩ := id X
  unfold f_resultHere_137 at hf
  refine lv_iconst (v := (0 : Int32)) hx hb dX12_resultHere_137 (by decide) ?_
  exact w_resultHere_138 X hret hf hM (lv_sub hl [] rfl)
noncomputable def f_resultHere_0 (I : Nat → Int32) (A : Nat → Nat → Int32) : Option (Int32 × MS) :=
  m_cl (f_look  I A) (fun r1 Ic1 Ac1 =>
  m_if (r1 = (42 : Int32)) (
  some ((0 : Int32), (Ic1, Ac1))
  ) (
  m_cl (f_goesOnWith (49 : Int32) (45 : Int32) (48 : Int32) Ic1 Ac1) (fun r2 Ic2 Ac2 =>
  m_if (r2 = 0) (
  m_cl (f_goesOnWith (48 : Int32) (45 : Int32) (49 : Int32) Ic2 Ac2) (fun r3 Ic3 Ac3 =>
  m_if (r3 = 0) (
  m_cl (f_goesOnWith (49 : Int32) (47 : Int32) (50 : Int32) Ic3 Ac3) (fun r4 Ic4 Ac4 =>
  m_if (r4 = 0) (
  f_resultHere_137  Ic4 Ac4
  ) (
  m_bnd ((Ic4 37) + (6 : Int32)) (fun v5 =>
  m_if ((Ic4 1) ≤ v5) (
  f_resultHere_137  Ic4 Ac4
  ) (
  m_bnd ((Ic4 37) + (3 : Int32)) (fun v6 =>
  m_chk (¬ (v6 < 0 ∨ 2000 ≤ (v6).toNatClampNeg)) (
  m_bnd (Ac4 2 (v6).toNatClampNeg) (fun v7 =>
  m_if (v7 = (45 : Int32)) (
  m_bnd ((Ic4 37) + (4 : Int32)) (fun v8 =>
  m_chk (¬ (v8 < 0 ∨ 2000 ≤ (v8).toNatClampNeg)) (
  m_bnd (Ac4 2 (v8).toNatClampNeg) (fun v9 =>
  m_if (v9 = (49 : Int32)) (
  m_bnd ((Ic4 37) + (5 : Int32)) (fun v10 =>
  m_chk (¬ (v10 < 0 ∨ 2000 ≤ (v10).toNatClampNeg)) (
  m_bnd (Ac4 2 (v10).toNatClampNeg) (fun v11 =>
  m_if (v11 = (47 : Int32)) (
  m_bnd ((Ic4 37) + (6 : Int32)) (fun v12 =>
  m_chk (¬ (v12 < 0 ∨ 2000 ≤ (v12).toNatClampNeg)) (
  m_bnd (Ac4 2 (v12).toNatClampNeg) (fun v13 =>
  m_if (v13 = (50 : Int32)) (
  f_resultHere_138 (1 : Int32) Ic4 Ac4
  ) (
  f_resultHere_137  Ic4 Ac4
  ))))
  ) (
  f_resultHere_137  Ic4 Ac4
  ))))
  ) (
  f_resultHere_137  Ic4 Ac4
  ))))
  ) (
  f_resultHere_137  Ic4 Ac4
  ))))
  ))
  ))
  ) (
  some ((2 : Int32), (Ic3, Ac3))
  ))
  ) (
  some ((1 : Int32), (Ic2, Ac2))
  ))
  ))

set_option maxRecDepth 100000 in
set_option maxHeartbeats 4000000 in
theorem w_resultHere_0 {p : Program} {l : Launch} {e : Env} {s : State} {m : MethodId} {args : Array Value} {below : List Frame} {meth : Method} {c : Code} {Q : State → Prop} {D : va_G} {cy ci : ClassId} {h : Nat → Nat} {A0 : Nat → Prop} {o : Int32 × MS} (X : CallFix p m c cX12_resultHere 2 s args wsX12_resultHere RX12) (hret : mRi p l e ({ frames := 1, cells := 0, slots := 0, locals := 23 } : Room) s m args below meth c Q cX12_resultHere D cy ci h A0 .int o) {I : Nat → Int32} {A : Nat → Nat → Int32} {H : Heap} {locs : List Loc} {ls : Array Slot} (hf : f_resultHere_0  I A = some o) (hM : mH D cy ci h A0 s H locs I A) (hl : lv_has ls 2 [(0, .ref (h 0))]) : W p l e ({ frames := 1, cells := 0, slots := 0, locals := 23 } : Room) s m args below meth c H locs 0 0 Q (F0 m 0 ls []) := by
  obtain ⟨hx, hb, hml, hown, hts⟩ := id X
  unfold f_resultHere_0 at hf
  refine lv_aload_n hx hb dX12_resultHere_0 rfl (lv_at hl 0 rfl) ?_
  obtain ⟨o1, ho, hf⟩ := m_clE hf
  refine m_callVi X hM (c_look ho) gX12_resultHere_X12_look rfl ⟨rfl, rfl⟩ hd_look ⟨Nat.le_of_ble_eq_true rfl, Nat.le_of_ble_eq_true rfl⟩ rfl hl.1 rfl (Nat.le_of_ble_eq_true rfl) dX12_resultHere_1 (fun H locs hM => ?_)
  clear ho
  refine lv_bipush (v := (42 : Int32)) hx hb dX12_resultHere_4 (by decide) ?_
  refine lv_icmp_ne (tgt := 11) hx hb dX12_resultHere_6 (by decide) (fun cc1 => ?_) (fun cc1 => ?_)
  · replace hf := m_ifF hf cc1
    refine lv_aload_n hx hb dX12_resultHere_11 rfl (lv_at hl 0 rfl) ?_
    refine lv_bipush (v := (49 : Int32)) hx hb dX12_resultHere_12 (by decide) ?_
    refine lv_bipush (v := (45 : Int32)) hx hb dX12_resultHere_14 (by decide) ?_
    refine lv_bipush (v := (48 : Int32)) hx hb dX12_resultHere_16 (by decide) ?_
    obtain ⟨o2, ho, hf⟩ := m_clE hf
    refine m_callVi X hM (c_goesOnWith ho) gX12_resultHere_X12_goesOnWith rfl ⟨rfl, rfl⟩ hd_goesOnWith ⟨Nat.le_of_ble_eq_true rfl, Nat.le_of_ble_eq_true rfl⟩ rfl hl.1 rfl (Nat.le_of_ble_eq_true rfl) dX12_resultHere_18 (fun H locs hM => ?_)
    clear ho
    refine lv_if_eq (tgt := 26) hx hb dX12_resultHere_21 (by decide) (fun cc1 => ?_) (fun cc1 => ?_)
    · replace hf := m_ifT hf cc1
      refine lv_aload_n hx hb dX12_resultHere_26 rfl (lv_at hl 0 rfl) ?_
      refine lv_bipush (v := (48 : Int32)) hx hb dX12_resultHere_27 (by decide) ?_
      refine lv_bipush (v := (45 : Int32)) hx hb dX12_resultHere_29 (by decide) ?_
      refine lv_bipush (v := (49 : Int32)) hx hb dX12_resultHere_31 (by decide) ?_
      obtain ⟨o3, ho, hf⟩ := m_clE hf
      refine m_callVi X hM (c_goesOnWith ho) gX12_resultHere_X12_goesOnWith rfl ⟨rfl, rfl⟩ hd_goesOnWith ⟨Nat.le_of_ble_eq_true rfl, Nat.le_of_ble_eq_true rfl⟩ rfl hl.1 rfl (Nat.le_of_ble_eq_true rfl) dX12_resultHere_33 (fun H locs hM => ?_)
      clear ho
      refine lv_if_eq (tgt := 41) hx hb dX12_resultHere_36 (by decide) (fun cc1 => ?_) (fun cc1 => ?_)
      · replace hf := m_ifT hf cc1
        refine lv_aload_n hx hb dX12_resultHere_41 rfl (lv_at hl 0 rfl) ?_
        refine lv_bipush (v := (49 : Int32)) hx hb dX12_resultHere_42 (by decide) ?_
        refine lv_bipush (v := (47 : Int32)) hx hb dX12_resultHere_44 (by decide) ?_
        refine lv_bipush (v := (50 : Int32)) hx hb dX12_resultHere_46 (by decide) ?_
        obtain ⟨o4, ho, hf⟩ := m_clE hf
        refine m_callVi X hM (c_goesOnWith ho) gX12_resultHere_X12_goesOnWith rfl ⟨rfl, rfl⟩ hd_goesOnWith ⟨Nat.le_of_ble_eq_true rfl, Nat.le_of_ble_eq_true rfl⟩ rfl hl.1 rfl (Nat.le_of_ble_eq_true rfl) dX12_resultHere_48 (fun H locs hM => ?_)
        clear ho
        refine lv_if_eq (tgt := 137) hx hb dX12_resultHere_51 (by decide) (fun cc1 => ?_) (fun cc1 => ?_)
        · replace hf := m_ifT hf cc1
          exact w_resultHere_137 X hret hf hM (lv_sub hl [] rfl)
        · replace hf := m_ifF hf cc1
          refine lv_aload_n hx hb dX12_resultHere_54 rfl (lv_at hl 0 rfl) ?_
          refine m_get (v := .int (o4.2.1 37)) X hw_resultHere hM 37 (by decide) fl_resultHere_37 rfl dX12_resultHere_55 ?_
          refine lv_bipush (v := (6 : Int32)) hx hb dX12_resultHere_58 (by decide) ?_
          refine lv_iadd hx hb dX12_resultHere_60 ?_
          obtain ⟨v5, ev, hf⟩ := m_bndE hf
          refine m_top ev ?_
          clear ev
          refine lv_aload_n hx hb dX12_resultHere_61 rfl (lv_at hl 0 rfl) ?_
          refine m_get (v := .int (o4.2.1 1)) X hw_resultHere hM 1 (by decide) fl_resultHere_1 rfl dX12_resultHere_62 ?_
          refine lv_icmp_ge (tgt := 137) hx hb dX12_resultHere_65 (by decide) (fun cc1 => ?_) (fun cc1 => ?_)
          · replace hf := m_ifT hf cc1
            exact w_resultHere_137 X hret hf hM (lv_sub hl [] rfl)
          · replace hf := m_ifF hf cc1
            refine lv_aload_n hx hb dX12_resultHere_68 rfl (lv_at hl 0 rfl) ?_
            refine m_get (v := .ref (h 2)) X hw_resultHere hM 2 (by decide) fl_resultHere_2 rfl dX12_resultHere_69 ?_
            refine lv_aload_n hx hb dX12_resultHere_72 rfl (lv_at hl 0 rfl) ?_
            refine m_get (v := .int (o4.2.1 37)) X hw_resultHere hM 37 (by decide) fl_resultHere_37 rfl dX12_resultHere_73 ?_
            refine lv_iconst (v := (3 : Int32)) hx hb dX12_resultHere_76 (by decide) ?_
            refine lv_iadd hx hb dX12_resultHere_77 ?_
            obtain ⟨v6, ev, hf⟩ := m_bndE hf
            refine m_top ev ?_
            clear ev
            obtain ⟨cd, hf⟩ := m_chkE hf
            refine m_cald X hM 2 1 2000 rfl cd dX12_resultHere_78 ?_
            clear cd
            obtain ⟨v7, ev, hf⟩ := m_bndE hf
            refine m_top ev ?_
            clear ev
            refine lv_bipush (v := (45 : Int32)) hx hb dX12_resultHere_79 (by decide) ?_
            refine lv_icmp_ne (tgt := 137) hx hb dX12_resultHere_81 (by decide) (fun cc1 => ?_) (fun cc1 => ?_)
            · replace hf := m_ifF hf cc1
              exact w_resultHere_137 X hret hf hM (lv_sub hl [] rfl)
            · replace hf := m_ifT hf cc1
              refine lv_aload_n hx hb dX12_resultHere_84 rfl (lv_at hl 0 rfl) ?_
              refine m_get (v := .ref (h 2)) X hw_resultHere hM 2 (by decide) fl_resultHere_2 rfl dX12_resultHere_85 ?_
              refine lv_aload_n hx hb dX12_resultHere_88 rfl (lv_at hl 0 rfl) ?_
              refine m_get (v := .int (o4.2.1 37)) X hw_resultHere hM 37 (by decide) fl_resultHere_37 rfl dX12_resultHere_89 ?_
              refine lv_iconst (v := (4 : Int32)) hx hb dX12_resultHere_92 (by decide) ?_
              refine lv_iadd hx hb dX12_resultHere_93 ?_
              obtain ⟨v8, ev, hf⟩ := m_bndE hf
              refine m_top ev ?_
              clear ev
              obtain ⟨cd, hf⟩ := m_chkE hf
              refine m_cald X hM 2 1 2000 rfl cd dX12_resultHere_94 ?_
              clear cd
              obtain ⟨v9, ev, hf⟩ := m_bndE hf
              refine m_top ev ?_
              clear ev
              refine lv_bipush (v := (49 : Int32)) hx hb dX12_resultHere_95 (by decide) ?_
              refine lv_icmp_ne (tgt := 137) hx hb dX12_resultHere_97 (by decide) (fun cc1 => ?_) (fun cc1 => ?_)
              · replace hf := m_ifF hf cc1
                exact w_resultHere_137 X hret hf hM (lv_sub hl [] rfl)
              · replace hf := m_ifT hf cc1
                refine lv_aload_n hx hb dX12_resultHere_100 rfl (lv_at hl 0 rfl) ?_
                refine m_get (v := .ref (h 2)) X hw_resultHere hM 2 (by decide) fl_resultHere_2 rfl dX12_resultHere_101 ?_
                refine lv_aload_n hx hb dX12_resultHere_104 rfl (lv_at hl 0 rfl) ?_
                refine m_get (v := .int (o4.2.1 37)) X hw_resultHere hM 37 (by decide) fl_resultHere_37 rfl dX12_resultHere_105 ?_
                refine lv_iconst (v := (5 : Int32)) hx hb dX12_resultHere_108 (by decide) ?_
                refine lv_iadd hx hb dX12_resultHere_109 ?_
                obtain ⟨v10, ev, hf⟩ := m_bndE hf
                refine m_top ev ?_
                clear ev
                obtain ⟨cd, hf⟩ := m_chkE hf
                refine m_cald X hM 2 1 2000 rfl cd dX12_resultHere_110 ?_
                clear cd
                obtain ⟨v11, ev, hf⟩ := m_bndE hf
                refine m_top ev ?_
                clear ev
                refine lv_bipush (v := (47 : Int32)) hx hb dX12_resultHere_111 (by decide) ?_
                refine lv_icmp_ne (tgt := 137) hx hb dX12_resultHere_113 (by decide) (fun cc1 => ?_) (fun cc1 => ?_)
                · replace hf := m_ifF hf cc1
                  exact w_resultHere_137 X hret hf hM (lv_sub hl [] rfl)
                · replace hf := m_ifT hf cc1
                  refine lv_aload_n hx hb dX12_resultHere_116 rfl (lv_at hl 0 rfl) ?_
                  refine m_get (v := .ref (h 2)) X hw_resultHere hM 2 (by decide) fl_resultHere_2 rfl dX12_resultHere_117 ?_
                  refine lv_aload_n hx hb dX12_resultHere_120 rfl (lv_at hl 0 rfl) ?_
                  refine m_get (v := .int (o4.2.1 37)) X hw_resultHere hM 37 (by decide) fl_resultHere_37 rfl dX12_resultHere_121 ?_
                  refine lv_bipush (v := (6 : Int32)) hx hb dX12_resultHere_124 (by decide) ?_
                  refine lv_iadd hx hb dX12_resultHere_126 ?_
                  obtain ⟨v12, ev, hf⟩ := m_bndE hf
                  refine m_top ev ?_
                  clear ev
                  obtain ⟨cd, hf⟩ := m_chkE hf
                  refine m_cald X hM 2 1 2000 rfl cd dX12_resultHere_127 ?_
                  clear cd
                  obtain ⟨v13, ev, hf⟩ := m_bndE hf
                  refine m_top ev ?_
                  clear ev
                  refine lv_bipush (v := (50 : Int32)) hx hb dX12_resultHere_128 (by decide) ?_
                  refine lv_icmp_ne (tgt := 137) hx hb dX12_resultHere_130 (by decide) (fun cc1 => ?_) (fun cc1 => ?_)
                  · replace hf := m_ifF hf cc1
                    exact w_resultHere_137 X hret hf hM (lv_sub hl [] rfl)
                  · replace hf := m_ifT hf cc1
                    refine lv_iconst (v := (1 : Int32)) hx hb dX12_resultHere_133 (by decide) ?_
                    refine lv_goto (tgt := 138) hx hb dX12_resultHere_134 (by decide) ?_
                    exact w_resultHere_138 X hret hf hM (lv_sub hl [] rfl)
      · replace hf := m_ifF hf cc1
        refine lv_iconst (v := (2 : Int32)) hx hb dX12_resultHere_39 (by decide) ?_
        cases hf
        exact hret H locs _ ls hM rfl dX12_resultHere_40
    · replace hf := m_ifF hf cc1
      refine lv_iconst (v := (1 : Int32)) hx hb dX12_resultHere_24 (by decide) ?_
      cases hf
      exact hret H locs _ ls hM rfl dX12_resultHere_25
  · replace hf := m_ifT hf cc1
    refine lv_iconst (v := (0 : Int32)) hx hb dX12_resultHere_9 (by decide) ?_
    cases hf
    exact hret H locs _ ls hM rfl dX12_resultHere_10
noncomputable def f_resultHere (I : Nat → Int32) (A : Nat → Nat → Int32) : Option (Int32 × MS) := f_resultHere_0  I A
theorem c_resultHere {l : Launch} {D : va_G} {cy ci : ClassId} {h : Nat → Nat} {I : Nat → Int32} {A : Nat → Nat → Int32} {o : Int32 × MS} (hf : f_resultHere  I A = some o) : mMi l yX12_resultHere wsX12_resultHere ({ frames := 1, cells := 0, slots := 0, locals := 23 } : Room) [.ref (h 0)] D cy ci h I A o :=
  m_entryI (cc := cX12_resultHere) (maxL := 2) (by decide) rfl rfl (Nat.le_of_ble_eq_true rfl) (fun p e s m args below meth c A0 Q H locs ls X hret hM hl => w_resultHere_0 X hret hf hM (lv_sub hl [0] rfl))
theorem hw_addMarkTo : ∀ w ∈ wsX120, w ∈ wsX12_addMarkTo := by decide +kernel
theorem fl_addMarkTo_12 : Cond.fieldLink RX12 33 "MoveTextsModel" "markCount" "[I" ∈ wsX12_addMarkTo := by decide +kernel
theorem fl_addMarkTo_13 : Cond.fieldLink RX12 36 "MoveTextsModel" "marks" "[I" ∈ wsX12_addMarkTo := by decide +kernel
theorem hd_addMarkTo : yX12_addMarkTo.cls = RX12 ∧ yX12_addMarkTo.cls ≠ "java/lang/invoke/MethodHandle" ∧ yX12_addMarkTo.cls ≠ "java/lang/invoke/VarHandle" ∧ (parseMethodDescriptor yX12_addMarkTo.desc).map (fun d => d.parameters.length) = some 3 := by decide +kernel
noncomputable def f_addMarkTo_0 (x1 : Int32) (x2 : Int32) (x3 : Int32) (I : Nat → Int32) (A : Nat → Nat → Int32) : Option (Int32 × MS) :=
  m_bnd ((301 : Int32) * x1) (fun v1 =>
  m_bnd (v1 + x2) (fun v2 =>
  m_bnd ((4 : Int32) * v2) (fun v3 =>
  m_chk (¬ (v2 < 0 ∨ 602 ≤ (v2).toNatClampNeg)) (
  m_bnd (A 12 (v2).toNatClampNeg) (fun v4 =>
  m_bnd (v3 + v4) (fun v5 =>
  m_chk (¬ (v5 < 0 ∨ 2408 ≤ (v5).toNatClampNeg)) (
  m_bnd (va_up A 13 (upd (A 13) (v5).toNatClampNeg x3)) (fun A6 =>
  m_chk (¬ (v2 < 0 ∨ 602 ≤ (v2).toNatClampNeg)) (
  m_bnd (A6 12 (v2).toNatClampNeg) (fun v7 =>
  m_bnd (v7 + (1 : Int32)) (fun v8 =>
  m_chk (¬ (v2 < 0 ∨ 602 ≤ (v2).toNatClampNeg)) (
  m_bnd (va_up A6 12 (upd (A6 12) (v2).toNatClampNeg v8)) (fun A9 =>
  some (0, (I, A9)))))))))))))))

set_option maxRecDepth 100000 in
set_option maxHeartbeats 4000000 in
theorem w_addMarkTo_0 {p : Program} {l : Launch} {e : Env} {s : State} {m : MethodId} {args : Array Value} {below : List Frame} {meth : Method} {c : Code} {Q : State → Prop} {D : va_G} {cy ci : ClassId} {h : Nat → Nat} {A0 : Nat → Prop} {o : Int32 × MS} (X : CallFix p m c cX12_addMarkTo 5 s args wsX12_addMarkTo RX12) (hret : mRv p l e ({ frames := 0, cells := 0, slots := 0, locals := 0 } : Room) s m args below meth c Q cX12_addMarkTo D cy ci h A0 o) {x1 : Int32} {x2 : Int32} {x3 : Int32} {I : Nat → Int32} {A : Nat → Nat → Int32} {H : Heap} {locs : List Loc} {ls : Array Slot} (hf : f_addMarkTo_0 x1 x2 x3 I A = some o) (hM : mH D cy ci h A0 s H locs I A) (hl : lv_has ls 5 [(0, .ref (h 0)), (1, .int x1), (2, .int x2), (3, .int x3)]) : W p l e ({ frames := 0, cells := 0, slots := 0, locals := 0 } : Room) s m args below meth c H locs 0 0 Q (F0 m 0 ls []) := by
  obtain ⟨hx, hb, hml, hown, hts⟩ := id X
  unfold f_addMarkTo_0 at hf
  refine lv_sipush (v := (301 : Int32)) hx hb dX12_addMarkTo_0 (by decide) ?_
  refine lv_iload_n hx hb dX12_addMarkTo_3 rfl (lv_at hl 1 rfl) ?_
  refine lv_imul hx hb dX12_addMarkTo_4 ?_
  obtain ⟨v1, ev, hf⟩ := m_bndE hf
  refine m_top ev ?_
  clear ev
  refine lv_iload_n hx hb dX12_addMarkTo_5 rfl (lv_at hl 2 rfl) ?_
  refine lv_iadd hx hb dX12_addMarkTo_6 ?_
  obtain ⟨v2, ev, hf⟩ := m_bndE hf
  refine m_top ev ?_
  clear ev
  refine lv_istore (lv' := [(4, .int v2), (0, .ref (h 0)), (1, .int x1), (2, .int x2), (3, .int x3)]) hx hb dX12_addMarkTo_7 hl (by decide) rfl (fun ls hl => ?_)
  refine lv_aload_n hx hb dX12_addMarkTo_9 rfl (lv_at hl 1 rfl) ?_
  refine m_get (v := .ref (h 13)) X hw_addMarkTo hM 13 (by decide) fl_addMarkTo_13 rfl dX12_addMarkTo_10 ?_
  refine lv_iconst (v := (4 : Int32)) hx hb dX12_addMarkTo_13 (by decide) ?_
  refine lv_iload hx hb dX12_addMarkTo_14 (lv_at hl 0 rfl) ?_
  refine lv_imul hx hb dX12_addMarkTo_16 ?_
  obtain ⟨v3, ev, hf⟩ := m_bndE hf
  refine m_top ev ?_
  clear ev
  refine lv_aload_n hx hb dX12_addMarkTo_17 rfl (lv_at hl 1 rfl) ?_
  refine m_get (v := .ref (h 12)) X hw_addMarkTo hM 12 (by decide) fl_addMarkTo_12 rfl dX12_addMarkTo_18 ?_
  refine lv_iload hx hb dX12_addMarkTo_21 (lv_at hl 0 rfl) ?_
  obtain ⟨cd, hf⟩ := m_chkE hf
  refine m_iald X hM 12 8 602 rfl cd dX12_addMarkTo_23 ?_
  clear cd
  obtain ⟨v4, ev, hf⟩ := m_bndE hf
  refine m_top ev ?_
  clear ev
  refine lv_iadd hx hb dX12_addMarkTo_24 ?_
  obtain ⟨v5, ev, hf⟩ := m_bndE hf
  refine m_top ev ?_
  clear ev
  refine lv_iload_n hx hb dX12_addMarkTo_25 rfl (lv_at hl 4 rfl) ?_
  obtain ⟨cd, hf⟩ := m_chkE hf
  refine m_iast X hM 13 9 2408 rfl ma_13 cd dX12_addMarkTo_26 (fun H locs hM => ?_)
  clear cd
  obtain ⟨A6, ev, hf⟩ := m_bndE hf
  replace hM := m_hA hM ev
  clear ev
  refine lv_aload_n hx hb dX12_addMarkTo_27 rfl (lv_at hl 1 rfl) ?_
  refine m_get (v := .ref (h 12)) X hw_addMarkTo hM 12 (by decide) fl_addMarkTo_12 rfl dX12_addMarkTo_28 ?_
  refine lv_iload hx hb dX12_addMarkTo_31 (lv_at hl 0 rfl) ?_
  refine lv_dup2_11 hx hb dX12_addMarkTo_33 rfl rfl ?_
  obtain ⟨cd, hf⟩ := m_chkE hf
  refine m_iald X hM 12 8 602 rfl cd dX12_addMarkTo_34 ?_
  clear cd
  obtain ⟨v7, ev, hf⟩ := m_bndE hf
  refine m_top ev ?_
  clear ev
  refine lv_iconst (v := (1 : Int32)) hx hb dX12_addMarkTo_35 (by decide) ?_
  refine lv_iadd hx hb dX12_addMarkTo_36 ?_
  obtain ⟨v8, ev, hf⟩ := m_bndE hf
  refine m_top ev ?_
  clear ev
  obtain ⟨cd, hf⟩ := m_chkE hf
  refine m_iast X hM 12 8 602 rfl ma_12 cd dX12_addMarkTo_37 (fun H locs hM => ?_)
  clear cd
  obtain ⟨A9, ev, hf⟩ := m_bndE hf
  replace hM := m_hA hM ev
  clear ev
  cases hf
  exact hret H locs _ ls hM dX12_addMarkTo_38
noncomputable def f_addMarkTo (x1 : Int32) (x2 : Int32) (x3 : Int32) (I : Nat → Int32) (A : Nat → Nat → Int32) : Option (Int32 × MS) := f_addMarkTo_0 x1 x2 x3 I A
theorem c_addMarkTo {l : Launch} {D : va_G} {cy ci : ClassId} {h : Nat → Nat} {x1 : Int32} {x2 : Int32} {x3 : Int32} {I : Nat → Int32} {A : Nat → Nat → Int32} {o : Int32 × MS} (hf : f_addMarkTo x1 x2 x3 I A = some o) : mMv l yX12_addMarkTo wsX12_addMarkTo ({ frames := 0, cells := 0, slots := 0, locals := 0 } : Room) [.ref (h 0), .int x1, .int x2, .int x3] D cy ci h I A o :=
  m_entryV (cc := cX12_addMarkTo) (maxL := 5) (by decide) rfl rfl (Nat.le_of_ble_eq_true rfl) (fun p e s m args below meth c A0 Q H locs ls X hret hM hl => w_addMarkTo_0 X hret hf hM (lv_sub hl [0, 1, 2, 3] rfl))
theorem hw_readMarks : ∀ w ∈ wsX120, w ∈ wsX12_readMarks := by decide +kernel
theorem fl_readMarks_12 : Cond.fieldLink RX12 33 "MoveTextsModel" "markCount" "[I" ∈ wsX12_readMarks := by decide +kernel
theorem fl_readMarks_37 : Cond.fieldLink RX12 267 "MoveTextsModel" "at" "I" ∈ wsX12_readMarks := by decide +kernel
theorem hd_readMarks : yX12_readMarks.cls = RX12 ∧ yX12_readMarks.cls ≠ "java/lang/invoke/MethodHandle" ∧ yX12_readMarks.cls ≠ "java/lang/invoke/VarHandle" ∧ (parseMethodDescriptor yX12_readMarks.desc).map (fun d => d.parameters.length) = some 2 := by decide +kernel
noncomputable def f_readMarks_236 (I : Nat → Int32) (A : Nat → Nat → Int32) : Option (Int32 × MS) :=
  m_cl (f_fault (1 : Int32) (I 37) I A) (fun r1 Ic1 Ac1 =>
  some (r1, (Ic1, Ac1)))

set_option maxRecDepth 100000 in
set_option maxHeartbeats 4000000 in
theorem w_readMarks_236 {p : Program} {l : Launch} {e : Env} {s : State} {m : MethodId} {args : Array Value} {below : List Frame} {meth : Method} {c : Code} {Q : State → Prop} {D : va_G} {cy ci : ClassId} {h : Nat → Nat} {A0 : Nat → Prop} {o : Int32 × MS} (X : CallFix p m c cX12_readMarks 6 s args wsX12_readMarks RX12) (hret : mRi p l e ({ frames := 1, cells := 0, slots := 0, locals := 24 } : Room) s m args below meth c Q cX12_readMarks D cy ci h A0 .int o) {I : Nat → Int32} {A : Nat → Nat → Int32} {H : Heap} {locs : List Loc} {ls : Array Slot} (hf : f_readMarks_236  I A = some o) (hM : mH D cy ci h A0 s H locs I A) (hl : lv_has ls 6 [(0, .ref (h 0))]) : W p l e ({ frames := 1, cells := 0, slots := 0, locals := 24 } : Room) s m args below meth c H locs 0 0 Q (F0 m 236 ls []) := by
  obtain ⟨hx, hb, hml, hown, hts⟩ := id X
  unfold f_readMarks_236 at hf
  refine lv_iconst (v := (1 : Int32)) hx hb dX12_readMarks_236 (by decide) ?_
  refine lv_aload_n hx hb dX12_readMarks_237 rfl (lv_at hl 0 rfl) ?_
  refine m_get (v := .int (I 37)) X hw_readMarks hM 37 (by decide) fl_readMarks_37 rfl dX12_readMarks_238 ?_
  obtain ⟨o1, ho, hf⟩ := m_clE hf
  refine m_callSi X hM (c_fault ho) gX12_readMarks_X12_fault rfl ⟨rfl, rfl⟩ hd_fault ⟨Nat.le_of_ble_eq_true rfl, Nat.le_of_ble_eq_true rfl⟩ rfl hl.1 rfl (Nat.le_of_ble_eq_true rfl) dX12_readMarks_241 (fun H locs hM => ?_)
  clear ho
  cases hf
  exact hret H locs _ ls hM rfl dX12_readMarks_244
noncomputable def f_readMarks_269 (x3 : Int32) (I : Nat → Int32) (A : Nat → Nat → Int32) : Option (Int32 × MS) :=
  m_cl (f_fault (8 : Int32) x3 I A) (fun r1 Ic1 Ac1 =>
  some (r1, (Ic1, Ac1)))

set_option maxRecDepth 100000 in
set_option maxHeartbeats 4000000 in
theorem w_readMarks_269 {p : Program} {l : Launch} {e : Env} {s : State} {m : MethodId} {args : Array Value} {below : List Frame} {meth : Method} {c : Code} {Q : State → Prop} {D : va_G} {cy ci : ClassId} {h : Nat → Nat} {A0 : Nat → Prop} {o : Int32 × MS} (X : CallFix p m c cX12_readMarks 6 s args wsX12_readMarks RX12) (hret : mRi p l e ({ frames := 1, cells := 0, slots := 0, locals := 24 } : Room) s m args below meth c Q cX12_readMarks D cy ci h A0 .int o) {x3 : Int32} {I : Nat → Int32} {A : Nat → Nat → Int32} {H : Heap} {locs : List Loc} {ls : Array Slot} (hf : f_readMarks_269 x3 I A = some o) (hM : mH D cy ci h A0 s H locs I A) (hl : lv_has ls 6 [(3, .int x3)]) : W p l e ({ frames := 1, cells := 0, slots := 0, locals := 24 } : Room) s m args below meth c H locs 0 0 Q (F0 m 269 ls []) := by
  obtain ⟨hx, hb, hml, hown, hts⟩ := id X
  unfold f_readMarks_269 at hf
  refine lv_bipush (v := (8 : Int32)) hx hb dX12_readMarks_269 (by decide) ?_
  refine lv_iload_n hx hb dX12_readMarks_271 rfl (lv_at hl 0 rfl) ?_
  obtain ⟨o1, ho, hf⟩ := m_clE hf
  refine m_callSi X hM (c_fault ho) gX12_readMarks_X12_fault rfl ⟨rfl, rfl⟩ hd_fault ⟨Nat.le_of_ble_eq_true rfl, Nat.le_of_ble_eq_true rfl⟩ rfl hl.1 rfl (Nat.le_of_ble_eq_true rfl) dX12_readMarks_272 (fun H locs hM => ?_)
  clear ho
  cases hf
  exact hret H locs _ ls hM rfl dX12_readMarks_275
noncomputable def f_readMarks_221 (self144 : Int32 → Int32 → (Nat → Int32) → (Nat → Nat → Int32) → Option (Int32 × MS)) (x1 : Int32) (x2 : Int32) (x3 : Int32) (x4 : Int32) (x5 : Int32) (I : Nat → Int32) (A : Nat → Nat → Int32) : Option (Int32 × MS) :=
  m_if (x5 = 0) (
  f_readMarks_236  I A
  ) (
  m_cl (f_look  I A) (fun r1 Ic1 Ac1 =>
  m_cl (f_isDigit r1 Ic1 Ac1) (fun r2 Ic2 Ac2 =>
  m_if (r2 = 0) (
  m_if ((255 : Int32) < x4) (
  f_readMarks_269 x3 Ic2 Ac2
  ) (
  m_bnd ((301 : Int32) * x1) (fun v3 =>
  m_bnd (v3 + x2) (fun v4 =>
  m_chk (¬ (v4 < 0 ∨ 602 ≤ (v4).toNatClampNeg)) (
  m_bnd (Ac2 12 (v4).toNatClampNeg) (fun v5 =>
  m_if (v5 = (4 : Int32)) (
  f_readMarks_269 x3 Ic2 Ac2
  ) (
  m_cl (f_addMarkTo x1 x2 x4 Ic2 Ac2) (fun r6 Ic6 Ac6 =>
  m_cl (f_blanks  Ic6 Ac6) (fun r7 Ic7 Ac7 =>
  self144 x1 x2 Ic7 Ac7))
  )))))
  )
  ) (
  f_readMarks_236  Ic2 Ac2
  )))
  )

set_option maxRecDepth 100000 in
set_option maxHeartbeats 4000000 in
theorem w_readMarks_221 {p : Program} {l : Launch} {e : Env} {s : State} {m : MethodId} {args : Array Value} {below : List Frame} {meth : Method} {c : Code} {Q : State → Prop} {D : va_G} {cy ci : ClassId} {h : Nat → Nat} {A0 : Nat → Prop} {o : Int32 × MS} (X : CallFix p m c cX12_readMarks 6 s args wsX12_readMarks RX12) (hret : mRi p l e ({ frames := 1, cells := 0, slots := 0, locals := 24 } : Room) s m args below meth c Q cX12_readMarks D cy ci h A0 .int o) {self144 : Int32 → Int32 → (Nat → Int32) → (Nat → Nat → Int32) → Option (Int32 × MS)} (hself144 : ∀ (x1 : Int32) (x2 : Int32) (I : Nat → Int32) (A : Nat → Nat → Int32) (H : Heap) (locs : List Loc) (ls : Array Slot), self144 x1 x2 I A = some o → mH D cy ci h A0 s H locs I A → lv_has ls 6 [(0, .ref (h 0)), (1, .int x1), (2, .int x2)] → W p l e ({ frames := 1, cells := 0, slots := 0, locals := 24 } : Room) s m args below meth c H locs 0 0 Q (F0 m 144 ls [])) {x1 : Int32} {x2 : Int32} {x3 : Int32} {x4 : Int32} {x5 : Int32} {I : Nat → Int32} {A : Nat → Nat → Int32} {H : Heap} {locs : List Loc} {ls : Array Slot} (hf : f_readMarks_221 self144 x1 x2 x3 x4 x5 I A = some o) (hM : mH D cy ci h A0 s H locs I A) (hl : lv_has ls 6 [(0, .ref (h 0)), (1, .int x1), (2, .int x2), (3, .int x3), (4, .int x4), (5, .int x5)]) : W p l e ({ frames := 1, cells := 0, slots := 0, locals := 24 } : Room) s m args below meth c H locs 0 0 Q (F0 m 221 ls []) := by
  obtain ⟨hx, hb, hml, hown, hts⟩ := id X
  unfold f_readMarks_221 at hf
  refine lv_iload hx hb dX12_readMarks_221 (lv_at hl 5 rfl) ?_
  refine lv_if_eq (tgt := 236) hx hb dX12_readMarks_223 (by decide) (fun cc1 => ?_) (fun cc1 => ?_)
  · replace hf := m_ifT hf cc1
    exact w_readMarks_236 X hret hf hM (lv_sub hl [0] rfl)
  · replace hf := m_ifF hf cc1
    refine lv_aload_n hx hb dX12_readMarks_226 rfl (lv_at hl 0 rfl) ?_
    obtain ⟨o1, ho, hf⟩ := m_clE hf
    refine m_callVi X hM (c_look ho) gX12_readMarks_X12_look rfl ⟨rfl, rfl⟩ hd_look ⟨Nat.le_of_ble_eq_true rfl, Nat.le_of_ble_eq_true rfl⟩ rfl hl.1 rfl (Nat.le_of_ble_eq_true rfl) dX12_readMarks_227 (fun H locs hM => ?_)
    clear ho
    obtain ⟨o2, ho, hf⟩ := m_clE hf
    refine m_callSi X hM (c_isDigit ho) gX12_readMarks_X12_isDigit rfl ⟨rfl, rfl⟩ hd_isDigit ⟨Nat.le_of_ble_eq_true rfl, Nat.le_of_ble_eq_true rfl⟩ rfl hl.1 rfl (Nat.le_of_ble_eq_true rfl) dX12_readMarks_230 (fun H locs hM => ?_)
    clear ho
    refine lv_if_eq (tgt := 245) hx hb dX12_readMarks_233 (by decide) (fun cc1 => ?_) (fun cc1 => ?_)
    · replace hf := m_ifT hf cc1
      refine lv_iload hx hb dX12_readMarks_245 (lv_at hl 4 rfl) ?_
      refine lv_sipush (v := (255 : Int32)) hx hb dX12_readMarks_247 (by decide) ?_
      refine lv_icmp_gt (tgt := 269) hx hb dX12_readMarks_250 (by decide) (fun cc1 => ?_) (fun cc1 => ?_)
      · replace hf := m_ifT hf cc1
        exact w_readMarks_269 X hret hf hM (lv_sub hl [3] rfl)
      · replace hf := m_ifF hf cc1
        refine lv_aload_n hx hb dX12_readMarks_253 rfl (lv_at hl 0 rfl) ?_
        refine m_get (v := .ref (h 12)) X hw_readMarks hM 12 (by decide) fl_readMarks_12 rfl dX12_readMarks_254 ?_
        refine lv_sipush (v := (301 : Int32)) hx hb dX12_readMarks_257 (by decide) ?_
        refine lv_iload_n hx hb dX12_readMarks_260 rfl (lv_at hl 1 rfl) ?_
        refine lv_imul hx hb dX12_readMarks_261 ?_
        obtain ⟨v3, ev, hf⟩ := m_bndE hf
        refine m_top ev ?_
        clear ev
        refine lv_iload_n hx hb dX12_readMarks_262 rfl (lv_at hl 2 rfl) ?_
        refine lv_iadd hx hb dX12_readMarks_263 ?_
        obtain ⟨v4, ev, hf⟩ := m_bndE hf
        refine m_top ev ?_
        clear ev
        obtain ⟨cd, hf⟩ := m_chkE hf
        refine m_iald X hM 12 8 602 rfl cd dX12_readMarks_264 ?_
        clear cd
        obtain ⟨v5, ev, hf⟩ := m_bndE hf
        refine m_top ev ?_
        clear ev
        refine lv_iconst (v := (4 : Int32)) hx hb dX12_readMarks_265 (by decide) ?_
        refine lv_icmp_ne (tgt := 276) hx hb dX12_readMarks_266 (by decide) (fun cc1 => ?_) (fun cc1 => ?_)
        · replace hf := m_ifF hf cc1
          refine lv_aload_n hx hb dX12_readMarks_276 rfl (lv_at hl 0 rfl) ?_
          refine lv_iload_n hx hb dX12_readMarks_277 rfl (lv_at hl 1 rfl) ?_
          refine lv_iload_n hx hb dX12_readMarks_278 rfl (lv_at hl 2 rfl) ?_
          refine lv_iload hx hb dX12_readMarks_279 (lv_at hl 4 rfl) ?_
          obtain ⟨o6, ho, hf⟩ := m_clE hf
          refine m_callVv X hM (c_addMarkTo ho) gX12_readMarks_X12_addMarkTo rfl ⟨rfl, rfl⟩ hd_addMarkTo ⟨Nat.le_of_ble_eq_true rfl, Nat.le_of_ble_eq_true rfl⟩ rfl hl.1 rfl (Nat.le_of_ble_eq_true rfl) dX12_readMarks_281 (fun H locs hM => ?_)
          clear ho
          refine lv_aload_n hx hb dX12_readMarks_284 rfl (lv_at hl 0 rfl) ?_
          obtain ⟨o7, ho, hf⟩ := m_clE hf
          refine m_callVv X hM (c_blanks ho) gX12_readMarks_X12_blanks rfl ⟨rfl, rfl⟩ hd_blanks ⟨Nat.le_of_ble_eq_true rfl, Nat.le_of_ble_eq_true rfl⟩ rfl hl.1 rfl (Nat.le_of_ble_eq_true rfl) dX12_readMarks_285 (fun H locs hM => ?_)
          clear ho
          refine lv_goto (tgt := 144) hx hb dX12_readMarks_288 (by decide) ?_
          exact hself144 _ _ _ _ _ _ _ hf hM (lv_sub hl [0, 1, 2] rfl)
        · replace hf := m_ifT hf cc1
          exact w_readMarks_269 X hret hf hM (lv_sub hl [3] rfl)
    · replace hf := m_ifF hf cc1
      exact w_readMarks_236 X hret hf hM (lv_sub hl [0] rfl)
noncomputable def f_readMarks_174s (self144 : Int32 → Int32 → (Nat → Int32) → (Nat → Nat → Int32) → Option (Int32 × MS)) (self174 : Int32 → Int32 → Int32 → Int32 → Int32 → (Nat → Int32) → (Nat → Nat → Int32) → Option (Int32 × MS)) (x1 : Int32) (x2 : Int32) (x3 : Int32) (x4 : Int32) (x5 : Int32) (I : Nat → Int32) (A : Nat → Nat → Int32) : Option (Int32 × MS) :=
  m_cl (f_look  I A) (fun r1 Ic1 Ac1 =>
  m_cl (f_isDigit r1 Ic1 Ac1) (fun r2 Ic2 Ac2 =>
  m_if (r2 = 0) (
  f_readMarks_221 self144 x1 x2 x3 x4 x5 Ic2 Ac2
  ) (
  m_if ((3 : Int32) ≤ x5) (
  f_readMarks_221 self144 x1 x2 x3 x4 x5 Ic2 Ac2
  ) (
  m_bnd ((10 : Int32) * x4) (fun v3 =>
  m_cl (f_look  Ic2 Ac2) (fun r4 Ic4 Ac4 =>
  m_bnd (v3 + r4) (fun v5 =>
  m_bnd (v5 - (48 : Int32)) (fun v6 =>
  m_bnd (x5 + (1 : Int32)) (fun v7 =>
  m_bnd ((Ic4 37) + (1 : Int32)) (fun v8 =>
  m_bnd (upd Ic4 37 v8) (fun I9 =>
  self174 x1 x2 x3 v6 v7 I9 Ac4)))))))
  )
  )))

set_option maxRecDepth 100000 in
set_option maxHeartbeats 4000000 in
theorem ws_readMarks_174 {p : Program} {l : Launch} {e : Env} {s : State} {m : MethodId} {args : Array Value} {below : List Frame} {meth : Method} {c : Code} {Q : State → Prop} {D : va_G} {cy ci : ClassId} {h : Nat → Nat} {A0 : Nat → Prop} {o : Int32 × MS} (X : CallFix p m c cX12_readMarks 6 s args wsX12_readMarks RX12) (hret : mRi p l e ({ frames := 1, cells := 0, slots := 0, locals := 24 } : Room) s m args below meth c Q cX12_readMarks D cy ci h A0 .int o) {self144 : Int32 → Int32 → (Nat → Int32) → (Nat → Nat → Int32) → Option (Int32 × MS)} (hself144 : ∀ (x1 : Int32) (x2 : Int32) (I : Nat → Int32) (A : Nat → Nat → Int32) (H : Heap) (locs : List Loc) (ls : Array Slot), self144 x1 x2 I A = some o → mH D cy ci h A0 s H locs I A → lv_has ls 6 [(0, .ref (h 0)), (1, .int x1), (2, .int x2)] → W p l e ({ frames := 1, cells := 0, slots := 0, locals := 24 } : Room) s m args below meth c H locs 0 0 Q (F0 m 144 ls [])) {self174 : Int32 → Int32 → Int32 → Int32 → Int32 → (Nat → Int32) → (Nat → Nat → Int32) → Option (Int32 × MS)} (hself174 : ∀ (x1 : Int32) (x2 : Int32) (x3 : Int32) (x4 : Int32) (x5 : Int32) (I : Nat → Int32) (A : Nat → Nat → Int32) (H : Heap) (locs : List Loc) (ls : Array Slot), self174 x1 x2 x3 x4 x5 I A = some o → mH D cy ci h A0 s H locs I A → lv_has ls 6 [(0, .ref (h 0)), (1, .int x1), (2, .int x2), (3, .int x3), (4, .int x4), (5, .int x5)] → W p l e ({ frames := 1, cells := 0, slots := 0, locals := 24 } : Room) s m args below meth c H locs 0 0 Q (F0 m 174 ls [])) {x1 : Int32} {x2 : Int32} {x3 : Int32} {x4 : Int32} {x5 : Int32} {I : Nat → Int32} {A : Nat → Nat → Int32} {H : Heap} {locs : List Loc} {ls : Array Slot} (hf : f_readMarks_174s self144 self174 x1 x2 x3 x4 x5 I A = some o) (hM : mH D cy ci h A0 s H locs I A) (hl : lv_has ls 6 [(0, .ref (h 0)), (1, .int x1), (2, .int x2), (3, .int x3), (4, .int x4), (5, .int x5)]) : W p l e ({ frames := 1, cells := 0, slots := 0, locals := 24 } : Room) s m args below meth c H locs 0 0 Q (F0 m 174 ls []) := by
  obtain ⟨hx, hb, hml, hown, hts⟩ := id X
  unfold f_readMarks_174s at hf
  refine lv_aload_n hx hb dX12_readMarks_174 rfl (lv_at hl 0 rfl) ?_
  obtain ⟨o1, ho, hf⟩ := m_clE hf
  refine m_callVi X hM (c_look ho) gX12_readMarks_X12_look rfl ⟨rfl, rfl⟩ hd_look ⟨Nat.le_of_ble_eq_true rfl, Nat.le_of_ble_eq_true rfl⟩ rfl hl.1 rfl (Nat.le_of_ble_eq_true rfl) dX12_readMarks_175 (fun H locs hM => ?_)
  clear ho
  obtain ⟨o2, ho, hf⟩ := m_clE hf
  refine m_callSi X hM (c_isDigit ho) gX12_readMarks_X12_isDigit rfl ⟨rfl, rfl⟩ hd_isDigit ⟨Nat.le_of_ble_eq_true rfl, Nat.le_of_ble_eq_true rfl⟩ rfl hl.1 rfl (Nat.le_of_ble_eq_true rfl) dX12_readMarks_178 (fun H locs hM => ?_)
  clear ho
  refine lv_if_eq (tgt := 221) hx hb dX12_readMarks_181 (by decide) (fun cc1 => ?_) (fun cc1 => ?_)
  · replace hf := m_ifT hf cc1
    exact w_readMarks_221 X hret hself144 hf hM (lv_sub hl [0, 1, 2, 3, 4, 5] rfl)
  · replace hf := m_ifF hf cc1
    refine lv_iload hx hb dX12_readMarks_184 (lv_at hl 5 rfl) ?_
    refine lv_iconst (v := (3 : Int32)) hx hb dX12_readMarks_186 (by decide) ?_
    refine lv_icmp_ge (tgt := 221) hx hb dX12_readMarks_187 (by decide) (fun cc1 => ?_) (fun cc1 => ?_)
    · replace hf := m_ifT hf cc1
      exact w_readMarks_221 X hret hself144 hf hM (lv_sub hl [0, 1, 2, 3, 4, 5] rfl)
    · replace hf := m_ifF hf cc1
      refine lv_bipush (v := (10 : Int32)) hx hb dX12_readMarks_190 (by decide) ?_
      refine lv_iload hx hb dX12_readMarks_192 (lv_at hl 4 rfl) ?_
      refine lv_imul hx hb dX12_readMarks_194 ?_
      obtain ⟨v3, ev, hf⟩ := m_bndE hf
      refine m_top ev ?_
      clear ev
      refine lv_aload_n hx hb dX12_readMarks_195 rfl (lv_at hl 0 rfl) ?_
      obtain ⟨o4, ho, hf⟩ := m_clE hf
      refine m_callVi X hM (c_look ho) gX12_readMarks_X12_look rfl ⟨rfl, rfl⟩ hd_look ⟨Nat.le_of_ble_eq_true rfl, Nat.le_of_ble_eq_true rfl⟩ rfl hl.1 rfl (Nat.le_of_ble_eq_true rfl) dX12_readMarks_196 (fun H locs hM => ?_)
      clear ho
      refine lv_iadd hx hb dX12_readMarks_199 ?_
      obtain ⟨v5, ev, hf⟩ := m_bndE hf
      refine m_top ev ?_
      clear ev
      refine lv_bipush (v := (48 : Int32)) hx hb dX12_readMarks_200 (by decide) ?_
      refine lv_isub hx hb dX12_readMarks_202 ?_
      obtain ⟨v6, ev, hf⟩ := m_bndE hf
      refine m_top ev ?_
      clear ev
      refine lv_istore (lv' := [(4, .int v6), (0, .ref (h 0)), (1, .int x1), (2, .int x2), (3, .int x3), (5, .int x5)]) hx hb dX12_readMarks_203 hl (by decide) rfl (fun ls hl => ?_)
      obtain ⟨v7, ev, hf⟩ := m_bndE hf
      refine lv_iinc (v := v7) (lv' := [(5, .int v7), (4, .int v6), (0, .ref (h 0)), (1, .int x1), (2, .int x2), (3, .int x3)]) hx hb dX12_readMarks_205 hl (k := 5) rfl (by rw [ev]; rfl) (by decide) rfl (fun ls hl => ?_)
      clear ev
      refine lv_aload_n hx hb dX12_readMarks_208 rfl (lv_at hl 2 rfl) ?_
      refine lv_dup hx hb dX12_readMarks_209 rfl ?_
      refine m_get (v := .int (o4.2.1 37)) X hw_readMarks hM 37 (by decide) fl_readMarks_37 rfl dX12_readMarks_210 ?_
      refine lv_iconst (v := (1 : Int32)) hx hb dX12_readMarks_213 (by decide) ?_
      refine lv_iadd hx hb dX12_readMarks_214 ?_
      obtain ⟨v8, ev, hf⟩ := m_bndE hf
      refine m_top ev ?_
      clear ev
      refine m_put X hw_readMarks hM 37 (by decide) fl_readMarks_37 mi_37 rfl (tyX12_ok 37 (by decide)) dX12_readMarks_215 (fun H locs hM => ?_)
      obtain ⟨I9, ev, hf⟩ := m_bndE hf
      replace hM := m_hI hM ev
      clear ev
      refine lv_goto (tgt := 174) hx hb dX12_readMarks_218 (by decide) ?_
      exact hself174 _ _ _ _ _ _ _ _ _ _ hf hM (lv_sub hl [2, 3, 4, 5, 1, 0] rfl)
noncomputable def f_readMarks_174 (self144 : Int32 → Int32 → (Nat → Int32) → (Nat → Nat → Int32) → Option (Int32 × MS)) : Nat → Int32 → Int32 → Int32 → Int32 → Int32 → (Nat → Int32) → (Nat → Nat → Int32) → Option (Int32 × MS)
  | 0 => fun _ _ _ _ _ _ _ => none
  | n + 1 => f_readMarks_174s self144 (f_readMarks_174 self144 n)
theorem w_readMarks_174 {p : Program} {l : Launch} {e : Env} {s : State} {m : MethodId} {args : Array Value} {below : List Frame} {meth : Method} {c : Code} {Q : State → Prop} {D : va_G} {cy ci : ClassId} {h : Nat → Nat} {A0 : Nat → Prop} {o : Int32 × MS} (X : CallFix p m c cX12_readMarks 6 s args wsX12_readMarks RX12) (hret : mRi p l e ({ frames := 1, cells := 0, slots := 0, locals := 24 } : Room) s m args below meth c Q cX12_readMarks D cy ci h A0 .int o) {self144 : Int32 → Int32 → (Nat → Int32) → (Nat → Nat → Int32) → Option (Int32 × MS)} (hself144 : ∀ (x1 : Int32) (x2 : Int32) (I : Nat → Int32) (A : Nat → Nat → Int32) (H : Heap) (locs : List Loc) (ls : Array Slot), self144 x1 x2 I A = some o → mH D cy ci h A0 s H locs I A → lv_has ls 6 [(0, .ref (h 0)), (1, .int x1), (2, .int x2)] → W p l e ({ frames := 1, cells := 0, slots := 0, locals := 24 } : Room) s m args below meth c H locs 0 0 Q (F0 m 144 ls [])) (n : Nat) : ∀ (x1 : Int32) (x2 : Int32) (x3 : Int32) (x4 : Int32) (x5 : Int32) (I : Nat → Int32) (A : Nat → Nat → Int32) (H : Heap) (locs : List Loc) (ls : Array Slot), f_readMarks_174 self144 n x1 x2 x3 x4 x5 I A = some o → mH D cy ci h A0 s H locs I A → lv_has ls 6 [(0, .ref (h 0)), (1, .int x1), (2, .int x2), (3, .int x3), (4, .int x4), (5, .int x5)] → W p l e ({ frames := 1, cells := 0, slots := 0, locals := 24 } : Room) s m args below meth c H locs 0 0 Q (F0 m 174 ls []) := by
  induction n with
  | zero => intro x1 x2 x3 x4 x5 I A H locs ls hf; cases hf
  | succ n ih => intro x1 x2 x3 x4 x5 I A H locs ls hf hM hl; exact ws_readMarks_174 X hret hself144 (self174 := f_readMarks_174 self144 n) ih hf hM hl
noncomputable def f_readMarks_144s (self144 : Int32 → Int32 → (Nat → Int32) → (Nat → Nat → Int32) → Option (Int32 × MS)) (x1 : Int32) (x2 : Int32) (I : Nat → Int32) (A : Nat → Nat → Int32) : Option (Int32 × MS) :=
  m_cl (f_look  I A) (fun r1 Ic1 Ac1 =>
  m_if (r1 = (36 : Int32)) (
  m_bnd ((Ic1 37) + (1 : Int32)) (fun v2 =>
  m_bnd (upd Ic1 37 v2) (fun I3 =>
  f_readMarks_174 self144 mFuel x1 x2 (Ic1 37) (0 : Int32) (0 : Int32) I3 Ac1))
  ) (
  some ((0 : Int32), (Ic1, Ac1))
  ))

set_option maxRecDepth 100000 in
set_option maxHeartbeats 4000000 in
theorem ws_readMarks_144 {p : Program} {l : Launch} {e : Env} {s : State} {m : MethodId} {args : Array Value} {below : List Frame} {meth : Method} {c : Code} {Q : State → Prop} {D : va_G} {cy ci : ClassId} {h : Nat → Nat} {A0 : Nat → Prop} {o : Int32 × MS} (X : CallFix p m c cX12_readMarks 6 s args wsX12_readMarks RX12) (hret : mRi p l e ({ frames := 1, cells := 0, slots := 0, locals := 24 } : Room) s m args below meth c Q cX12_readMarks D cy ci h A0 .int o) {self144 : Int32 → Int32 → (Nat → Int32) → (Nat → Nat → Int32) → Option (Int32 × MS)} (hself144 : ∀ (x1 : Int32) (x2 : Int32) (I : Nat → Int32) (A : Nat → Nat → Int32) (H : Heap) (locs : List Loc) (ls : Array Slot), self144 x1 x2 I A = some o → mH D cy ci h A0 s H locs I A → lv_has ls 6 [(0, .ref (h 0)), (1, .int x1), (2, .int x2)] → W p l e ({ frames := 1, cells := 0, slots := 0, locals := 24 } : Room) s m args below meth c H locs 0 0 Q (F0 m 144 ls [])) {x1 : Int32} {x2 : Int32} {I : Nat → Int32} {A : Nat → Nat → Int32} {H : Heap} {locs : List Loc} {ls : Array Slot} (hf : f_readMarks_144s self144 x1 x2 I A = some o) (hM : mH D cy ci h A0 s H locs I A) (hl : lv_has ls 6 [(0, .ref (h 0)), (1, .int x1), (2, .int x2)]) : W p l e ({ frames := 1, cells := 0, slots := 0, locals := 24 } : Room) s m args below meth c H locs 0 0 Q (F0 m 144 ls []) := by
  obtain ⟨hx, hb, hml, hown, hts⟩ := id X
  unfold f_readMarks_144s at hf
  refine lv_aload_n hx hb dX12_readMarks_144 rfl (lv_at hl 0 rfl) ?_
  obtain ⟨o1, ho, hf⟩ := m_clE hf
  refine m_callVi X hM (c_look ho) gX12_readMarks_X12_look rfl ⟨rfl, rfl⟩ hd_look ⟨Nat.le_of_ble_eq_true rfl, Nat.le_of_ble_eq_true rfl⟩ rfl hl.1 rfl (Nat.le_of_ble_eq_true rfl) dX12_readMarks_145 (fun H locs hM => ?_)
  clear ho
  refine lv_bipush (v := (36 : Int32)) hx hb dX12_readMarks_148 (by decide) ?_
  refine lv_icmp_ne (tgt := 291) hx hb dX12_readMarks_150 (by decide) (fun cc1 => ?_) (fun cc1 => ?_)
  · replace hf := m_ifF hf cc1
    refine lv_iconst (v := (0 : Int32)) hx hb dX12_readMarks_291 (by decide) ?_
    cases hf
    exact hret H locs _ ls hM rfl dX12_readMarks_292
  · replace hf := m_ifT hf cc1
    refine lv_aload_n hx hb dX12_readMarks_153 rfl (lv_at hl 0 rfl) ?_
    refine m_get (v := .int (o1.2.1 37)) X hw_readMarks hM 37 (by decide) fl_readMarks_37 rfl dX12_readMarks_154 ?_
    refine lv_istore_n (lv' := [(3, .int (o1.2.1 37)), (0, .ref (h 0)), (1, .int x1), (2, .int x2)]) hx hb dX12_readMarks_157 rfl hl (by decide) rfl (fun ls hl => ?_)
    refine lv_aload_n hx hb dX12_readMarks_158 rfl (lv_at hl 1 rfl) ?_
    refine lv_dup hx hb dX12_readMarks_159 rfl ?_
    refine m_get (v := .int (o1.2.1 37)) X hw_readMarks hM 37 (by decide) fl_readMarks_37 rfl dX12_readMarks_160 ?_
    refine lv_iconst (v := (1 : Int32)) hx hb dX12_readMarks_163 (by decide) ?_
    refine lv_iadd hx hb dX12_readMarks_164 ?_
    obtain ⟨v2, ev, hf⟩ := m_bndE hf
    refine m_top ev ?_
    clear ev
    refine m_put X hw_readMarks hM 37 (by decide) fl_readMarks_37 mi_37 rfl (tyX12_ok 37 (by decide)) dX12_readMarks_165 (fun H locs hM => ?_)
    obtain ⟨I3, ev, hf⟩ := m_bndE hf
    replace hM := m_hI hM ev
    clear ev
    refine lv_iconst (v := (0 : Int32)) hx hb dX12_readMarks_168 (by decide) ?_
    refine lv_istore (lv' := [(4, .int (0 : Int32)), (3, .int (o1.2.1 37)), (0, .ref (h 0)), (1, .int x1), (2, .int x2)]) hx hb dX12_readMarks_169 hl (by decide) rfl (fun ls hl => ?_)
    refine lv_iconst (v := (0 : Int32)) hx hb dX12_readMarks_171 (by decide) ?_
    refine lv_istore (lv' := [(5, .int (0 : Int32)), (4, .int (0 : Int32)), (3, .int (o1.2.1 37)), (0, .ref (h 0)), (1, .int x1), (2, .int x2)]) hx hb dX12_readMarks_172 hl (by decide) rfl (fun ls hl => ?_)
    exact w_readMarks_174 X hret hself144 _ _ _ _ _ _ _ _ _ _ _ hf hM (lv_sub hl [3, 4, 5, 2, 1, 0] rfl)
noncomputable def f_readMarks_144 : Nat → Int32 → Int32 → (Nat → Int32) → (Nat → Nat → Int32) → Option (Int32 × MS)
  | 0 => fun _ _ _ _ => none
  | n + 1 => f_readMarks_144s (f_readMarks_144 n)
theorem w_readMarks_144 {p : Program} {l : Launch} {e : Env} {s : State} {m : MethodId} {args : Array Value} {below : List Frame} {meth : Method} {c : Code} {Q : State → Prop} {D : va_G} {cy ci : ClassId} {h : Nat → Nat} {A0 : Nat → Prop} {o : Int32 × MS} (X : CallFix p m c cX12_readMarks 6 s args wsX12_readMarks RX12) (hret : mRi p l e ({ frames := 1, cells := 0, slots := 0, locals := 24 } : Room) s m args below meth c Q cX12_readMarks D cy ci h A0 .int o) (n : Nat) : ∀ (x1 : Int32) (x2 : Int32) (I : Nat → Int32) (A : Nat → Nat → Int32) (H : Heap) (locs : List Loc) (ls : Array Slot), f_readMarks_144 n x1 x2 I A = some o → mH D cy ci h A0 s H locs I A → lv_has ls 6 [(0, .ref (h 0)), (1, .int x1), (2, .int x2)] → W p l e ({ frames := 1, cells := 0, slots := 0, locals := 24 } : Room) s m args below meth c H locs 0 0 Q (F0 m 144 ls []) := by
  induction n with
  | zero => intro x1 x2 I A H locs ls hf; cases hf
  | succ n ih => intro x1 x2 I A H locs ls hf hM hl; exact ws_readMarks_144 X hret (self144 := f_readMarks_144 n) ih hf hM hl
noncomputable def f_readMarks_132 (x1 : Int32) (x2 : Int32) (x4 : Int32) (I : Nat → Int32) (A : Nat → Nat → Int32) : Option (Int32 × MS) :=
  m_cl (f_addMarkTo x1 x2 x4 I A) (fun r1 Ic1 Ac1 =>
  m_cl (f_blanks  Ic1 Ac1) (fun r2 Ic2 Ac2 =>
  f_readMarks_144 mFuel x1 x2 Ic2 Ac2))

set_option maxRecDepth 100000 in
set_option maxHeartbeats 4000000 in
theorem w_readMarks_132 {p : Program} {l : Launch} {e : Env} {s : State} {m : MethodId} {args : Array Value} {below : List Frame} {meth : Method} {c : Code} {Q : State → Prop} {D : va_G} {cy ci : ClassId} {h : Nat → Nat} {A0 : Nat → Prop} {o : Int32 × MS} (X : CallFix p m c cX12_readMarks 6 s args wsX12_readMarks RX12) (hret : mRi p l e ({ frames := 1, cells := 0, slots := 0, locals := 24 } : Room) s m args below meth c Q cX12_readMarks D cy ci h A0 .int o) {x1 : Int32} {x2 : Int32} {x4 : Int32} {I : Nat → Int32} {A : Nat → Nat → Int32} {H : Heap} {locs : List Loc} {ls : Array Slot} (hf : f_readMarks_132 x1 x2 x4 I A = some o) (hM : mH D cy ci h A0 s H locs I A) (hl : lv_has ls 6 [(0, .ref (h 0)), (1, .int x1), (2, .int x2), (4, .int x4)]) : W p l e ({ frames := 1, cells := 0, slots := 0, locals := 24 } : Room) s m args below meth c H locs 0 0 Q (F0 m 132 ls []) := by
  obtain ⟨hx, hb, hml, hown, hts⟩ := id X
  unfold f_readMarks_132 at hf
  refine lv_aload_n hx hb dX12_readMarks_132 rfl (lv_at hl 0 rfl) ?_
  refine lv_iload_n hx hb dX12_readMarks_133 rfl (lv_at hl 1 rfl) ?_
  refine lv_iload_n hx hb dX12_readMarks_134 rfl (lv_at hl 2 rfl) ?_
  refine lv_iload hx hb dX12_readMarks_135 (lv_at hl 3 rfl) ?_
  obtain ⟨o1, ho, hf⟩ := m_clE hf
  refine m_callVv X hM (c_addMarkTo ho) gX12_readMarks_X12_addMarkTo rfl ⟨rfl, rfl⟩ hd_addMarkTo ⟨Nat.le_of_ble_eq_true rfl, Nat.le_of_ble_eq_true rfl⟩ rfl hl.1 rfl (Nat.le_of_ble_eq_true rfl) dX12_readMarks_137 (fun H locs hM => ?_)
  clear ho
  refine lv_aload_n hx hb dX12_readMarks_140 rfl (lv_at hl 0 rfl) ?_
  obtain ⟨o2, ho, hf⟩ := m_clE hf
  refine m_callVv X hM (c_blanks ho) gX12_readMarks_X12_blanks rfl ⟨rfl, rfl⟩ hd_blanks ⟨Nat.le_of_ble_eq_true rfl, Nat.le_of_ble_eq_true rfl⟩ rfl hl.1 rfl (Nat.le_of_ble_eq_true rfl) dX12_readMarks_141 (fun H locs hM => ?_)
  clear ho
  exact w_readMarks_144 X hret _ _ _ _ _ _ _ _ hf hM (lv_sub hl [0, 1, 2] rfl)
noncomputable def f_readMarks_120 (x1 : Int32) (x2 : Int32) (t0 : Int32) (I : Nat → Int32) (A : Nat → Nat → Int32) : Option (Int32 × MS) :=
  m_bnd ((I 37) + (1 : Int32)) (fun v1 =>
  m_bnd (upd I 37 v1) (fun I2 =>
  f_readMarks_132 x1 x2 t0 I2 A))

set_option maxRecDepth 100000 in
set_option maxHeartbeats 4000000 in
theorem w_readMarks_120 {p : Program} {l : Launch} {e : Env} {s : State} {m : MethodId} {args : Array Value} {below : List Frame} {meth : Method} {c : Code} {Q : State → Prop} {D : va_G} {cy ci : ClassId} {h : Nat → Nat} {A0 : Nat → Prop} {o : Int32 × MS} (X : CallFix p m c cX12_readMarks 6 s args wsX12_readMarks RX12) (hret : mRi p l e ({ frames := 1, cells := 0, slots := 0, locals := 24 } : Room) s m args below meth c Q cX12_readMarks D cy ci h A0 .int o) {x1 : Int32} {x2 : Int32} {t0 : Int32} {I : Nat → Int32} {A : Nat → Nat → Int32} {H : Heap} {locs : List Loc} {ls : Array Slot} (hf : f_readMarks_120 x1 x2 t0 I A = some o) (hM : mH D cy ci h A0 s H locs I A) (hl : lv_has ls 6 [(0, .ref (h 0)), (1, .int x1), (2, .int x2)]) : W p l e ({ frames := 1, cells := 0, slots := 0, locals := 24 } : Room) s m args below meth c H locs 0 0 Q (F0 m 120 ls [.int t0]) := by
  obtain ⟨hx, hb, hml, hown, hts⟩ := id X
  unfold f_readMarks_120 at hf
  refine lv_istore (lv' := [(4, .int t0), (0, .ref (h 0)), (1, .int x1), (2, .int x2)]) hx hb dX12_readMarks_120 hl (by decide) rfl (fun ls hl => ?_)
  refine lv_aload_n hx hb dX12_readMarks_122 rfl (lv_at hl 1 rfl) ?_
  refine lv_dup hx hb dX12_readMarks_123 rfl ?_
  refine m_get (v := .int (I 37)) X hw_readMarks hM 37 (by decide) fl_readMarks_37 rfl dX12_readMarks_124 ?_
  refine lv_iconst (v := (1 : Int32)) hx hb dX12_readMarks_127 (by decide) ?_
  refine lv_iadd hx hb dX12_readMarks_128 ?_
  obtain ⟨v1, ev, hf⟩ := m_bndE hf
  refine m_top ev ?_
  clear ev
  refine m_put X hw_readMarks hM 37 (by decide) fl_readMarks_37 mi_37 rfl (tyX12_ok 37 (by decide)) dX12_readMarks_129 (fun H locs hM => ?_)
  obtain ⟨I2, ev, hf⟩ := m_bndE hf
  replace hM := m_hI hM ev
  clear ev
  exact w_readMarks_132 X hret hf hM (lv_sub hl [1, 2, 3, 0] rfl)
noncomputable def f_readMarks_90 (x1 : Int32) (x2 : Int32) (x3 : Int32) (t0 : Int32) (I : Nat → Int32) (A : Nat → Nat → Int32) : Option (Int32 × MS) :=
  m_if (x3 = 0) (
  m_if (t0 = 0) (
  f_readMarks_120 x1 x2 (4 : Int32) I A
  ) (
  f_readMarks_120 x1 x2 (6 : Int32) I A
  )
  ) (
  m_if (t0 = 0) (
  f_readMarks_120 x1 x2 (5 : Int32) I A
  ) (
  f_readMarks_120 x1 x2 (3 : Int32) I A
  )
  )

set_option maxRecDepth 100000 in
set_option maxHeartbeats 4000000 in
theorem w_readMarks_90 {p : Program} {l : Launch} {e : Env} {s : State} {m : MethodId} {args : Array Value} {below : List Frame} {meth : Method} {c : Code} {Q : State → Prop} {D : va_G} {cy ci : ClassId} {h : Nat → Nat} {A0 : Nat → Prop} {o : Int32 × MS} (X : CallFix p m c cX12_readMarks 6 s args wsX12_readMarks RX12) (hret : mRi p l e ({ frames := 1, cells := 0, slots := 0, locals := 24 } : Room) s m args below meth c Q cX12_readMarks D cy ci h A0 .int o) {x1 : Int32} {x2 : Int32} {x3 : Int32} {t0 : Int32} {I : Nat → Int32} {A : Nat → Nat → Int32} {H : Heap} {locs : List Loc} {ls : Array Slot} (hf : f_readMarks_90 x1 x2 x3 t0 I A = some o) (hM : mH D cy ci h A0 s H locs I A) (hl : lv_has ls 6 [(0, .ref (h 0)), (1, .int x1), (2, .int x2), (3, .int x3)]) : W p l e ({ frames := 1, cells := 0, slots := 0, locals := 24 } : Room) s m args below meth c H locs 0 0 Q (F0 m 90 ls [.int t0]) := by
  obtain ⟨hx, hb, hml, hown, hts⟩ := id X
  unfold f_readMarks_90 at hf
  refine lv_istore (lv' := [(5, .int t0), (0, .ref (h 0)), (1, .int x1), (2, .int x2), (3, .int x3)]) hx hb dX12_readMarks_90 hl (by decide) rfl (fun ls hl => ?_)
  refine lv_iload_n hx hb dX12_readMarks_92 rfl (lv_at hl 4 rfl) ?_
  refine lv_if_eq (tgt := 109) hx hb dX12_readMarks_93 (by decide) (fun cc1 => ?_) (fun cc1 => ?_)
  · replace hf := m_ifT hf cc1
    refine lv_iload hx hb dX12_readMarks_109 (lv_at hl 0 rfl) ?_
    refine lv_if_eq (tgt := 119) hx hb dX12_readMarks_111 (by decide) (fun cc1 => ?_) (fun cc1 => ?_)
    · replace hf := m_ifT hf cc1
      refine lv_iconst (v := (4 : Int32)) hx hb dX12_readMarks_119 (by decide) ?_
      exact w_readMarks_120 X hret hf hM (lv_sub hl [1, 2, 3] rfl)
    · replace hf := m_ifF hf cc1
      refine lv_bipush (v := (6 : Int32)) hx hb dX12_readMarks_114 (by decide) ?_
      refine lv_goto (tgt := 120) hx hb dX12_readMarks_116 (by decide) ?_
      exact w_readMarks_120 X hret hf hM (lv_sub hl [1, 2, 3] rfl)
  · replace hf := m_ifF hf cc1
    refine lv_iload hx hb dX12_readMarks_96 (lv_at hl 0 rfl) ?_
    refine lv_if_eq (tgt := 105) hx hb dX12_readMarks_98 (by decide) (fun cc1 => ?_) (fun cc1 => ?_)
    · replace hf := m_ifT hf cc1
      refine lv_iconst (v := (5 : Int32)) hx hb dX12_readMarks_105 (by decide) ?_
      refine lv_goto (tgt := 120) hx hb dX12_readMarks_106 (by decide) ?_
      exact w_readMarks_120 X hret hf hM (lv_sub hl [1, 2, 3] rfl)
    · replace hf := m_ifF hf cc1
      refine lv_iconst (v := (3 : Int32)) hx hb dX12_readMarks_101 (by decide) ?_
      refine lv_goto (tgt := 120) hx hb dX12_readMarks_102 (by decide) ?_
      exact w_readMarks_120 X hret hf hM (lv_sub hl [1, 2, 3] rfl)
noncomputable def f_readMarks_76 (x1 : Int32) (x2 : Int32) (x3 : Int32) (I : Nat → Int32) (A : Nat → Nat → Int32) : Option (Int32 × MS) :=
  m_cl (f_look  I A) (fun r1 Ic1 Ac1 =>
  m_if (r1 = (33 : Int32)) (
  f_readMarks_90 x1 x2 x3 (1 : Int32) Ic1 Ac1
  ) (
  f_readMarks_90 x1 x2 x3 (0 : Int32) Ic1 Ac1
  ))

set_option maxRecDepth 100000 in
set_option maxHeartbeats 4000000 in
theorem w_readMarks_76 {p : Program} {l : Launch} {e : Env} {s : State} {m : MethodId} {args : Array Value} {below : List Frame} {meth : Method} {c : Code} {Q : State → Prop} {D : va_G} {cy ci : ClassId} {h : Nat → Nat} {A0 : Nat → Prop} {o : Int32 × MS} (X : CallFix p m c cX12_readMarks 6 s args wsX12_readMarks RX12) (hret : mRi p l e ({ frames := 1, cells := 0, slots := 0, locals := 24 } : Room) s m args below meth c Q cX12_readMarks D cy ci h A0 .int o) {x1 : Int32} {x2 : Int32} {x3 : Int32} {I : Nat → Int32} {A : Nat → Nat → Int32} {H : Heap} {locs : List Loc} {ls : Array Slot} (hf : f_readMarks_76 x1 x2 x3 I A = some o) (hM : mH D cy ci h A0 s H locs I A) (hl : lv_has ls 6 [(0, .ref (h 0)), (1, .int x1), (2, .int x2), (3, .int x3)]) : W p l e ({ frames := 1, cells := 0, slots := 0, locals := 24 } : Room) s m args below meth c H locs 0 0 Q (F0 m 76 ls []) := by
  obtain ⟨hx, hb, hml, hown, hts⟩ := id X
  unfold f_readMarks_76 at hf
  refine lv_aload_n hx hb dX12_readMarks_76 rfl (lv_at hl 0 rfl) ?_
  obtain ⟨o1, ho, hf⟩ := m_clE hf
  refine m_callVi X hM (c_look ho) gX12_readMarks_X12_look rfl ⟨rfl, rfl⟩ hd_look ⟨Nat.le_of_ble_eq_true rfl, Nat.le_of_ble_eq_true rfl⟩ rfl hl.1 rfl (Nat.le_of_ble_eq_true rfl) dX12_readMarks_77 (fun H locs hM => ?_)
  clear ho
  refine lv_bipush (v := (33 : Int32)) hx hb dX12_readMarks_80 (by decide) ?_
  refine lv_icmp_ne (tgt := 89) hx hb dX12_readMarks_82 (by decide) (fun cc1 => ?_) (fun cc1 => ?_)
  · replace hf := m_ifF hf cc1
    refine lv_iconst (v := (0 : Int32)) hx hb dX12_readMarks_89 (by decide) ?_
    exact w_readMarks_90 X hret hf hM (lv_sub hl [0, 1, 2, 3] rfl)
  · replace hf := m_ifT hf cc1
    refine lv_iconst (v := (1 : Int32)) hx hb dX12_readMarks_85 (by decide) ?_
    refine lv_goto (tgt := 90) hx hb dX12_readMarks_86 (by decide) ?_
    exact w_readMarks_90 X hret hf hM (lv_sub hl [0, 1, 2, 3] rfl)
noncomputable def f_readMarks_56 (x1 : Int32) (x2 : Int32) (x3 : Int32) (t0 : Int32) (I : Nat → Int32) (A : Nat → Nat → Int32) : Option (Int32 × MS) :=
  m_cl (f_look  I A) (fun r1 Ic1 Ac1 =>
  m_if (r1 = (33 : Int32)) (
  f_readMarks_76 x1 x2 x3 Ic1 Ac1
  ) (
  m_cl (f_look  Ic1 Ac1) (fun r2 Ic2 Ac2 =>
  m_if (r2 = (63 : Int32)) (
  f_readMarks_76 x1 x2 x3 Ic2 Ac2
  ) (
  f_readMarks_132 x1 x2 t0 Ic2 Ac2
  ))
  ))

set_option maxRecDepth 100000 in
set_option maxHeartbeats 4000000 in
theorem w_readMarks_56 {p : Program} {l : Launch} {e : Env} {s : State} {m : MethodId} {args : Array Value} {below : List Frame} {meth : Method} {c : Code} {Q : State → Prop} {D : va_G} {cy ci : ClassId} {h : Nat → Nat} {A0 : Nat → Prop} {o : Int32 × MS} (X : CallFix p m c cX12_readMarks 6 s args wsX12_readMarks RX12) (hret : mRi p l e ({ frames := 1, cells := 0, slots := 0, locals := 24 } : Room) s m args below meth c Q cX12_readMarks D cy ci h A0 .int o) {x1 : Int32} {x2 : Int32} {x3 : Int32} {t0 : Int32} {I : Nat → Int32} {A : Nat → Nat → Int32} {H : Heap} {locs : List Loc} {ls : Array Slot} (hf : f_readMarks_56 x1 x2 x3 t0 I A = some o) (hM : mH D cy ci h A0 s H locs I A) (hl : lv_has ls 6 [(0, .ref (h 0)), (1, .int x1), (2, .int x2), (3, .int x3)]) : W p l e ({ frames := 1, cells := 0, slots := 0, locals := 24 } : Room) s m args below meth c H locs 0 0 Q (F0 m 56 ls [.int t0]) := by
  obtain ⟨hx, hb, hml, hown, hts⟩ := id X
  unfold f_readMarks_56 at hf
  refine lv_istore (lv' := [(4, .int t0), (0, .ref (h 0)), (1, .int x1), (2, .int x2), (3, .int x3)]) hx hb dX12_readMarks_56 hl (by decide) rfl (fun ls hl => ?_)
  refine lv_aload_n hx hb dX12_readMarks_58 rfl (lv_at hl 1 rfl) ?_
  obtain ⟨o1, ho, hf⟩ := m_clE hf
  refine m_callVi X hM (c_look ho) gX12_readMarks_X12_look rfl ⟨rfl, rfl⟩ hd_look ⟨Nat.le_of_ble_eq_true rfl, Nat.le_of_ble_eq_true rfl⟩ rfl hl.1 rfl (Nat.le_of_ble_eq_true rfl) dX12_readMarks_59 (fun H locs hM => ?_)
  clear ho
  refine lv_bipush (v := (33 : Int32)) hx hb dX12_readMarks_62 (by decide) ?_
  refine lv_icmp_eq (tgt := 76) hx hb dX12_readMarks_64 (by decide) (fun cc1 => ?_) (fun cc1 => ?_)
  · replace hf := m_ifT hf cc1
    exact w_readMarks_76 X hret hf hM (lv_sub hl [1, 2, 3, 4] rfl)
  · replace hf := m_ifF hf cc1
    refine lv_aload_n hx hb dX12_readMarks_67 rfl (lv_at hl 1 rfl) ?_
    obtain ⟨o2, ho, hf⟩ := m_clE hf
    refine m_callVi X hM (c_look ho) gX12_readMarks_X12_look rfl ⟨rfl, rfl⟩ hd_look ⟨Nat.le_of_ble_eq_true rfl, Nat.le_of_ble_eq_true rfl⟩ rfl hl.1 rfl (Nat.le_of_ble_eq_true rfl) dX12_readMarks_68 (fun H locs hM => ?_)
    clear ho
    refine lv_bipush (v := (63 : Int32)) hx hb dX12_readMarks_71 (by decide) ?_
    refine lv_icmp_ne (tgt := 132) hx hb dX12_readMarks_73 (by decide) (fun cc1 => ?_) (fun cc1 => ?_)
    · replace hf := m_ifF hf cc1
      exact w_readMarks_132 X hret hf hM (lv_sub hl [1, 2, 3, 0] rfl)
    · replace hf := m_ifT hf cc1
      exact w_readMarks_76 X hret hf hM (lv_sub hl [1, 2, 3, 4] rfl)
noncomputable def f_readMarks_36 (x1 : Int32) (x2 : Int32) (t0 : Int32) (I : Nat → Int32) (A : Nat → Nat → Int32) : Option (Int32 × MS) :=
  m_bnd ((I 37) + (1 : Int32)) (fun v1 =>
  m_bnd (upd I 37 v1) (fun I2 =>
  m_if (t0 = 0) (
  f_readMarks_56 x1 x2 t0 (2 : Int32) I2 A
  ) (
  f_readMarks_56 x1 x2 t0 (1 : Int32) I2 A
  )))

set_option maxRecDepth 100000 in
set_option maxHeartbeats 4000000 in
theorem w_readMarks_36 {p : Program} {l : Launch} {e : Env} {s : State} {m : MethodId} {args : Array Value} {below : List Frame} {meth : Method} {c : Code} {Q : State → Prop} {D : va_G} {cy ci : ClassId} {h : Nat → Nat} {A0 : Nat → Prop} {o : Int32 × MS} (X : CallFix p m c cX12_readMarks 6 s args wsX12_readMarks RX12) (hret : mRi p l e ({ frames := 1, cells := 0, slots := 0, locals := 24 } : Room) s m args below meth c Q cX12_readMarks D cy ci h A0 .int o) {x1 : Int32} {x2 : Int32} {t0 : Int32} {I : Nat → Int32} {A : Nat → Nat → Int32} {H : Heap} {locs : List Loc} {ls : Array Slot} (hf : f_readMarks_36 x1 x2 t0 I A = some o) (hM : mH D cy ci h A0 s H locs I A) (hl : lv_has ls 6 [(0, .ref (h 0)), (1, .int x1), (2, .int x2)]) : W p l e ({ frames := 1, cells := 0, slots := 0, locals := 24 } : Room) s m args below meth c H locs 0 0 Q (F0 m 36 ls [.int t0]) := by
  obtain ⟨hx, hb, hml, hown, hts⟩ := id X
  unfold f_readMarks_36 at hf
  refine lv_istore_n (lv' := [(3, .int t0), (0, .ref (h 0)), (1, .int x1), (2, .int x2)]) hx hb dX12_readMarks_36 rfl hl (by decide) rfl (fun ls hl => ?_)
  refine lv_aload_n hx hb dX12_readMarks_37 rfl (lv_at hl 1 rfl) ?_
  refine lv_dup hx hb dX12_readMarks_38 rfl ?_
  refine m_get (v := .int (I 37)) X hw_readMarks hM 37 (by decide) fl_readMarks_37 rfl dX12_readMarks_39 ?_
  refine lv_iconst (v := (1 : Int32)) hx hb dX12_readMarks_42 (by decide) ?_
  refine lv_iadd hx hb dX12_readMarks_43 ?_
  obtain ⟨v1, ev, hf⟩ := m_bndE hf
  refine m_top ev ?_
  clear ev
  refine m_put X hw_readMarks hM 37 (by decide) fl_readMarks_37 mi_37 rfl (tyX12_ok 37 (by decide)) dX12_readMarks_44 (fun H locs hM => ?_)
  obtain ⟨I2, ev, hf⟩ := m_bndE hf
  replace hM := m_hI hM ev
  clear ev
  refine lv_iload_n hx hb dX12_readMarks_47 rfl (lv_at hl 0 rfl) ?_
  refine lv_if_eq (tgt := 55) hx hb dX12_readMarks_48 (by decide) (fun cc1 => ?_) (fun cc1 => ?_)
  · replace hf := m_ifT hf cc1
    refine lv_iconst (v := (2 : Int32)) hx hb dX12_readMarks_55 (by decide) ?_
    exact w_readMarks_56 X hret hf hM (lv_sub hl [1, 2, 3, 0] rfl)
  · replace hf := m_ifF hf cc1
    refine lv_iconst (v := (1 : Int32)) hx hb dX12_readMarks_51 (by decide) ?_
    refine lv_goto (tgt := 56) hx hb dX12_readMarks_52 (by decide) ?_
    exact w_readMarks_56 X hret hf hM (lv_sub hl [1, 2, 3, 0] rfl)
noncomputable def f_readMarks_22 (x1 : Int32) (x2 : Int32) (I : Nat → Int32) (A : Nat → Nat → Int32) : Option (Int32 × MS) :=
  m_cl (f_look  I A) (fun r1 Ic1 Ac1 =>
  m_if (r1 = (33 : Int32)) (
  f_readMarks_36 x1 x2 (1 : Int32) Ic1 Ac1
  ) (
  f_readMarks_36 x1 x2 (0 : Int32) Ic1 Ac1
  ))

set_option maxRecDepth 100000 in
set_option maxHeartbeats 4000000 in
theorem w_readMarks_22 {p : Program} {l : Launch} {e : Env} {s : State} {m : MethodId} {args : Array Value} {below : List Frame} {meth : Method} {c : Code} {Q : State → Prop} {D : va_G} {cy ci : ClassId} {h : Nat → Nat} {A0 : Nat → Prop} {o : Int32 × MS} (X : CallFix p m c cX12_readMarks 6 s args wsX12_readMarks RX12) (hret : mRi p l e ({ frames := 1, cells := 0, slots := 0, locals := 24 } : Room) s m args below meth c Q cX12_readMarks D cy ci h A0 .int o) {x1 : Int32} {x2 : Int32} {I : Nat → Int32} {A : Nat → Nat → Int32} {H : Heap} {locs : List Loc} {ls : Array Slot} (hf : f_readMarks_22 x1 x2 I A = some o) (hM : mH D cy ci h A0 s H locs I A) (hl : lv_has ls 6 [(0, .ref (h 0)), (1, .int x1), (2, .int x2)]) : W p l e ({ frames := 1, cells := 0, slots := 0, locals := 24 } : Room) s m args below meth c H locs 0 0 Q (F0 m 22 ls []) := by
  obtain ⟨hx, hb, hml, hown, hts⟩ := id X
  unfold f_readMarks_22 at hf
  refine lv_aload_n hx hb dX12_readMarks_22 rfl (lv_at hl 0 rfl) ?_
  obtain ⟨o1, ho, hf⟩ := m_clE hf
  refine m_callVi X hM (c_look ho) gX12_readMarks_X12_look rfl ⟨rfl, rfl⟩ hd_look ⟨Nat.le_of_ble_eq_true rfl, Nat.le_of_ble_eq_true rfl⟩ rfl hl.1 rfl (Nat.le_of_ble_eq_true rfl) dX12_readMarks_23 (fun H locs hM => ?_)
  clear ho
  refine lv_bipush (v := (33 : Int32)) hx hb dX12_readMarks_26 (by decide) ?_
  refine lv_icmp_ne (tgt := 35) hx hb dX12_readMarks_28 (by decide) (fun cc1 => ?_) (fun cc1 => ?_)
  · replace hf := m_ifF hf cc1
    refine lv_iconst (v := (0 : Int32)) hx hb dX12_readMarks_35 (by decide) ?_
    exact w_readMarks_36 X hret hf hM (lv_sub hl [0, 1, 2] rfl)
  · replace hf := m_ifT hf cc1
    refine lv_iconst (v := (1 : Int32)) hx hb dX12_readMarks_31 (by decide) ?_
    refine lv_goto (tgt := 36) hx hb dX12_readMarks_32 (by decide) ?_
    exact w_readMarks_36 X hret hf hM (lv_sub hl [0, 1, 2] rfl)
noncomputable def f_readMarks_0 (x1 : Int32) (x2 : Int32) (I : Nat → Int32) (A : Nat → Nat → Int32) : Option (Int32 × MS) :=
  m_cl (f_blanks  I A) (fun r1 Ic1 Ac1 =>
  m_cl (f_look  Ic1 Ac1) (fun r2 Ic2 Ac2 =>
  m_if (r2 = (33 : Int32)) (
  f_readMarks_22 x1 x2 Ic2 Ac2
  ) (
  m_cl (f_look  Ic2 Ac2) (fun r3 Ic3 Ac3 =>
  m_if (r3 = (63 : Int32)) (
  f_readMarks_22 x1 x2 Ic3 Ac3
  ) (
  f_readMarks_144 mFuel x1 x2 Ic3 Ac3
  ))
  )))

set_option maxRecDepth 100000 in
set_option maxHeartbeats 4000000 in
theorem w_readMarks_0 {p : Program} {l : Launch} {e : Env} {s : State} {m : MethodId} {args : Array Value} {below : List Frame} {meth : Method} {c : Code} {Q : State → Prop} {D : va_G} {cy ci : ClassId} {h : Nat → Nat} {A0 : Nat → Prop} {o : Int32 × MS} (X : CallFix p m c cX12_readMarks 6 s args wsX12_readMarks RX12) (hret : mRi p l e ({ frames := 1, cells := 0, slots := 0, locals := 24 } : Room) s m args below meth c Q cX12_readMarks D cy ci h A0 .int o) {x1 : Int32} {x2 : Int32} {I : Nat → Int32} {A : Nat → Nat → Int32} {H : Heap} {locs : List Loc} {ls : Array Slot} (hf : f_readMarks_0 x1 x2 I A = some o) (hM : mH D cy ci h A0 s H locs I A) (hl : lv_has ls 6 [(0, .ref (h 0)), (1, .int x1), (2, .int x2)]) : W p l e ({ frames := 1, cells := 0, slots := 0, locals := 24 } : Room) s m args below meth c H locs 0 0 Q (F0 m 0 ls []) := by
  obtain ⟨hx, hb, hml, hown, hts⟩ := id X
  unfold f_readMarks_0 at hf
  refine lv_aload_n hx hb dX12_readMarks_0 rfl (lv_at hl 0 rfl) ?_
  obtain ⟨o1, ho, hf⟩ := m_clE hf
  refine m_callVv X hM (c_blanks ho) gX12_readMarks_X12_blanks rfl ⟨rfl, rfl⟩ hd_blanks ⟨Nat.le_of_ble_eq_true rfl, Nat.le_of_ble_eq_true rfl⟩ rfl hl.1 rfl (Nat.le_of_ble_eq_true rfl) dX12_readMarks_1 (fun H locs hM => ?_)
  clear ho
  refine lv_aload_n hx hb dX12_readMarks_4 rfl (lv_at hl 0 rfl) ?_
  obtain ⟨o2, ho, hf⟩ := m_clE hf
  refine m_callVi X hM (c_look ho) gX12_readMarks_X12_look rfl ⟨rfl, rfl⟩ hd_look ⟨Nat.le_of_ble_eq_true rfl, Nat.le_of_ble_eq_true rfl⟩ rfl hl.1 rfl (Nat.le_of_ble_eq_true rfl) dX12_readMarks_5 (fun H locs hM => ?_)
  clear ho
  refine lv_bipush (v := (33 : Int32)) hx hb dX12_readMarks_8 (by decide) ?_
  refine lv_icmp_eq (tgt := 22) hx hb dX12_readMarks_10 (by decide) (fun cc1 => ?_) (fun cc1 => ?_)
  · replace hf := m_ifT hf cc1
    exact w_readMarks_22 X hret hf hM (lv_sub hl [0, 1, 2] rfl)
  · replace hf := m_ifF hf cc1
    refine lv_aload_n hx hb dX12_readMarks_13 rfl (lv_at hl 0 rfl) ?_
    obtain ⟨o3, ho, hf⟩ := m_clE hf
    refine m_callVi X hM (c_look ho) gX12_readMarks_X12_look rfl ⟨rfl, rfl⟩ hd_look ⟨Nat.le_of_ble_eq_true rfl, Nat.le_of_ble_eq_true rfl⟩ rfl hl.1 rfl (Nat.le_of_ble_eq_true rfl) dX12_readMarks_14 (fun H locs hM => ?_)
    clear ho
    refine lv_bipush (v := (63 : Int32)) hx hb dX12_readMarks_17 (by decide) ?_
    refine lv_icmp_ne (tgt := 144) hx hb dX12_readMarks_19 (by decide) (fun cc1 => ?_) (fun cc1 => ?_)
    · replace hf := m_ifF hf cc1
      exact w_readMarks_144 X hret _ _ _ _ _ _ _ _ hf hM (lv_sub hl [0, 1, 2] rfl)
    · replace hf := m_ifT hf cc1
      exact w_readMarks_22 X hret hf hM (lv_sub hl [0, 1, 2] rfl)
noncomputable def f_readMarks (x1 : Int32) (x2 : Int32) (I : Nat → Int32) (A : Nat → Nat → Int32) : Option (Int32 × MS) := f_readMarks_0 x1 x2 I A
theorem c_readMarks {l : Launch} {D : va_G} {cy ci : ClassId} {h : Nat → Nat} {x1 : Int32} {x2 : Int32} {I : Nat → Int32} {A : Nat → Nat → Int32} {o : Int32 × MS} (hf : f_readMarks x1 x2 I A = some o) : mMi l yX12_readMarks wsX12_readMarks ({ frames := 1, cells := 0, slots := 0, locals := 24 } : Room) [.ref (h 0), .int x1, .int x2] D cy ci h I A o :=
  m_entryI (cc := cX12_readMarks) (maxL := 6) (by decide) rfl rfl (Nat.le_of_ble_eq_true rfl) (fun p e s m args below meth c A0 Q H locs ls X hret hM hl => w_readMarks_0 X hret hf hM (lv_sub hl [0, 1, 2] rfl))
end
section
theorem hw_readMoveNumber : ∀ w ∈ wsX120, w ∈ wsX12_readMoveNumber := by decide +kernel
theorem fl_readMoveNumber_29 : Cond.fieldLink RX12 133 "MoveTextsModel" "number" "I" ∈ wsX12_readMoveNumber := by decide +kernel
theorem fl_readMoveNumber_37 : Cond.fieldLink RX12 267 "MoveTextsModel" "at" "I" ∈ wsX12_readMoveNumber := by decide +kernel
theorem hd_readMoveNumber : yX12_readMoveNumber.cls = RX12 ∧ yX12_readMoveNumber.cls ≠ "java/lang/invoke/MethodHandle" ∧ yX12_readMoveNumber.cls ≠ "java/lang/invoke/VarHandle" ∧ (parseMethodDescriptor yX12_readMoveNumber.desc).map (fun d => d.parameters.length) = some 0 := by decide +kernel
noncomputable def f_readMoveNumber_65s (self65 : Int32 → Int32 → (Nat → Int32) → (Nat → Nat → Int32) → Option (Int32 × MS)) (x1 : Int32) (x2 : Int32) (I : Nat → Int32) (A : Nat → Nat → Int32) : Option (Int32 × MS) :=
  m_cl (f_look  I A) (fun r1 Ic1 Ac1 =>
  m_if (r1 = (46 : Int32)) (
  m_bnd ((Ic1 37) + (1 : Int32)) (fun v4 =>
  m_bnd (upd Ic1 37 v4) (fun I5 =>
  self65 x1 x2 I5 Ac1))
  ) (
  m_if (x2 = (Ic1 29)) (
  m_cl (f_blanks  Ic1 Ac1) (fun r2 Ic2 Ac2 =>
  some ((0 : Int32), (Ic2, Ac2)))
  ) (
  m_cl (f_fault (7 : Int32) x1 Ic1 Ac1) (fun r3 Ic3 Ac3 =>
  some (r3, (Ic3, Ac3)))
  )
  ))

set_option maxRecDepth 100000 in
set_option maxHeartbeats 4000000 in
theorem ws_readMoveNumber_65 {p : Program} {l : Launch} {e : Env} {s : State} {m : MethodId} {args : Array Value} {below : List Frame} {meth : Method} {c : Code} {Q : State → Prop} {D : va_G} {cy ci : ClassId} {h : Nat → Nat} {A0 : Nat → Prop} {o : Int32 × MS} (X : CallFix p m c cX12_readMoveNumber 4 s args wsX12_readMoveNumber RX12) (hret : mRi p l e ({ frames := 1, cells := 0, slots := 0, locals := 21 } : Room) s m args below meth c Q cX12_readMoveNumber D cy ci h A0 .int o) {self65 : Int32 → Int32 → (Nat → Int32) → (Nat → Nat → Int32) → Option (Int32 × MS)} (hself65 : ∀ (x1 : Int32) (x2 : Int32) (I : Nat → Int32) (A : Nat → Nat → Int32) (H : Heap) (locs : List Loc) (ls : Array Slot), self65 x1 x2 I A = some o → mH D cy ci h A0 s H locs I A → lv_has ls 4 [(0, .ref (h 0)), (1, .int x1), (2, .int x2)] → W p l e ({ frames := 1, cells := 0, slots := 0, locals := 21 } : Room) s m args below meth c H locs 0 0 Q (F0 m 65 ls [])) {x1 : Int32} {x2 : Int32} {I : Nat → Int32} {A : Nat → Nat → Int32} {H : Heap} {locs : List Loc} {ls : Array Slot} (hf : f_readMoveNumber_65s self65 x1 x2 I A = some o) (hM : mH D cy ci h A0 s H locs I A) (hl : lv_has ls 4 [(0, .ref (h 0)), (1, .int x1), (2, .int x2)]) : W p l e ({ frames := 1, cells := 0, slots := 0, locals := 21 } : Room) s m args below meth c H locs 0 0 Q (F0 m 65 ls []) := by
  obtain ⟨hx, hb, hml, hown, hts⟩ := id X
  unfold f_readMoveNumber_65s at hf
  refine lv_aload_n hx hb dX12_readMoveNumber_65 rfl (lv_at hl 0 rfl) ?_
  obtain ⟨o1, ho, hf⟩ := m_clE hf
  refine m_callVi X hM (c_look ho) gX12_readMoveNumber_X12_look rfl ⟨rfl, rfl⟩ hd_look ⟨Nat.le_of_ble_eq_true rfl, Nat.le_of_ble_eq_true rfl⟩ rfl hl.1 rfl (Nat.le_of_ble_eq_true rfl) dX12_readMoveNumber_66 (fun H locs hM => ?_)
  clear ho
  refine lv_bipush (v := (46 : Int32)) hx hb dX12_readMoveNumber_69 (by decide) ?_
  refine lv_icmp_ne (tgt := 87) hx hb dX12_readMoveNumber_71 (by decide) (fun cc1 => ?_) (fun cc1 => ?_)
  · replace hf := m_ifF hf cc1
    refine lv_iload_n hx hb dX12_readMoveNumber_87 rfl (lv_at hl 2 rfl) ?_
    refine lv_aload_n hx hb dX12_readMoveNumber_88 rfl (lv_at hl 0 rfl) ?_
    refine m_get (v := .int (o1.2.1 29)) X hw_readMoveNumber hM 29 (by decide) fl_readMoveNumber_29 rfl dX12_readMoveNumber_89 ?_
    refine lv_icmp_eq (tgt := 102) hx hb dX12_readMoveNumber_92 (by decide) (fun cc1 => ?_) (fun cc1 => ?_)
    · replace hf := m_ifT hf cc1
      refine lv_aload_n hx hb dX12_readMoveNumber_102 rfl (lv_at hl 0 rfl) ?_
      obtain ⟨o2, ho, hf⟩ := m_clE hf
      refine m_callVv X hM (c_blanks ho) gX12_readMoveNumber_X12_blanks rfl ⟨rfl, rfl⟩ hd_blanks ⟨Nat.le_of_ble_eq_true rfl, Nat.le_of_ble_eq_true rfl⟩ rfl hl.1 rfl (Nat.le_of_ble_eq_true rfl) dX12_readMoveNumber_103 (fun H locs hM => ?_)
      clear ho
      refine lv_iconst (v := (0 : Int32)) hx hb dX12_readMoveNumber_106 (by decide) ?_
      cases hf
      exact hret H locs _ ls hM rfl dX12_readMoveNumber_107
    · replace hf := m_ifF hf cc1
      refine lv_bipush (v := (7 : Int32)) hx hb dX12_readMoveNumber_95 (by decide) ?_
      refine lv_iload_n hx hb dX12_readMoveNumber_97 rfl (lv_at hl 1 rfl) ?_
      obtain ⟨o3, ho, hf⟩ := m_clE hf
      refine m_callSi X hM (c_fault ho) gX12_readMoveNumber_X12_fault rfl ⟨rfl, rfl⟩ hd_fault ⟨Nat.le_of_ble_eq_true rfl, Nat.le_of_ble_eq_true rfl⟩ rfl hl.1 rfl (Nat.le_of_ble_eq_true rfl) dX12_readMoveNumber_98 (fun H locs hM => ?_)
      clear ho
      cases hf
      exact hret H locs _ ls hM rfl dX12_readMoveNumber_101
  · replace hf := m_ifT hf cc1
    refine lv_aload_n hx hb dX12_readMoveNumber_74 rfl (lv_at hl 0 rfl) ?_
    refine lv_dup hx hb dX12_readMoveNumber_75 rfl ?_
    refine m_get (v := .int (o1.2.1 37)) X hw_readMoveNumber hM 37 (by decide) fl_readMoveNumber_37 rfl dX12_readMoveNumber_76 ?_
    refine lv_iconst (v := (1 : Int32)) hx hb dX12_readMoveNumber_79 (by decide) ?_
    refine lv_iadd hx hb dX12_readMoveNumber_80 ?_
    obtain ⟨v4, ev, hf⟩ := m_bndE hf
    refine m_top ev ?_
    clear ev
    refine m_put X hw_readMoveNumber hM 37 (by decide) fl_readMoveNumber_37 mi_37 rfl (tyX12_ok 37 (by decide)) dX12_readMoveNumber_81 (fun H locs hM => ?_)
    obtain ⟨I5, ev, hf⟩ := m_bndE hf
    replace hM := m_hI hM ev
    clear ev
    refine lv_goto (tgt := 65) hx hb dX12_readMoveNumber_84 (by decide) ?_
    exact hself65 _ _ _ _ _ _ _ hf hM (lv_sub hl [0, 1, 2] rfl)
noncomputable def f_readMoveNumber_65 : Nat → Int32 → Int32 → (Nat → Int32) → (Nat → Nat → Int32) → Option (Int32 × MS)
  | 0 => fun _ _ _ _ => none
  | n + 1 => f_readMoveNumber_65s (f_readMoveNumber_65 n)
theorem w_readMoveNumber_65 {p : Program} {l : Launch} {e : Env} {s : State} {m : MethodId} {args : Array Value} {below : List Frame} {meth : Method} {c : Code} {Q : State → Prop} {D : va_G} {cy ci : ClassId} {h : Nat → Nat} {A0 : Nat → Prop} {o : Int32 × MS} (X : CallFix p m c cX12_readMoveNumber 4 s args wsX12_readMoveNumber RX12) (hret : mRi p l e ({ frames := 1, cells := 0, slots := 0, locals := 21 } : Room) s m args below meth c Q cX12_readMoveNumber D cy ci h A0 .int o) (n : Nat) : ∀ (x1 : Int32) (x2 : Int32) (I : Nat → Int32) (A : Nat → Nat → Int32) (H : Heap) (locs : List Loc) (ls : Array Slot), f_readMoveNumber_65 n x1 x2 I A = some o → mH D cy ci h A0 s H locs I A → lv_has ls 4 [(0, .ref (h 0)), (1, .int x1), (2, .int x2)] → W p l e ({ frames := 1, cells := 0, slots := 0, locals := 21 } : Room) s m args below meth c H locs 0 0 Q (F0 m 65 ls []) := by
  induction n with
  | zero => intro x1 x2 I A H locs ls hf; cases hf
  | succ n ih => intro x1 x2 I A H locs ls hf hM hl; exact ws_readMoveNumber_65 X hret (self65 := f_readMoveNumber_65 n) ih hf hM hl
noncomputable def f_readMoveNumber_21s (self21 : Int32 → Int32 → Int32 → (Nat → Int32) → (Nat → Nat → Int32) → Option (Int32 × MS)) (x1 : Int32) (x2 : Int32) (x3 : Int32) (I : Nat → Int32) (A : Nat → Nat → Int32) : Option (Int32 × MS) :=
  m_cl (f_look  I A) (fun r1 Ic1 Ac1 =>
  m_cl (f_isDigit r1 Ic1 Ac1) (fun r2 Ic2 Ac2 =>
  m_if (r2 = 0) (
  f_readMoveNumber_65 mFuel x1 x2 Ic2 Ac2
  ) (
  m_if ((4 : Int32) ≤ x3) (
  f_readMoveNumber_65 mFuel x1 x2 Ic2 Ac2
  ) (
  m_bnd ((10 : Int32) * x2) (fun v3 =>
  m_cl (f_look  Ic2 Ac2) (fun r4 Ic4 Ac4 =>
  m_bnd (v3 + r4) (fun v5 =>
  m_bnd (v5 - (48 : Int32)) (fun v6 =>
  m_bnd (x3 + (1 : Int32)) (fun v7 =>
  m_bnd ((Ic4 37) + (1 : Int32)) (fun v8 =>
  m_bnd (upd Ic4 37 v8) (fun I9 =>
  self21 x1 v6 v7 I9 Ac4)))))))
  )
  )))

set_option maxRecDepth 100000 in
set_option maxHeartbeats 4000000 in
theorem ws_readMoveNumber_21 {p : Program} {l : Launch} {e : Env} {s : State} {m : MethodId} {args : Array Value} {below : List Frame} {meth : Method} {c : Code} {Q : State → Prop} {D : va_G} {cy ci : ClassId} {h : Nat → Nat} {A0 : Nat → Prop} {o : Int32 × MS} (X : CallFix p m c cX12_readMoveNumber 4 s args wsX12_readMoveNumber RX12) (hret : mRi p l e ({ frames := 1, cells := 0, slots := 0, locals := 21 } : Room) s m args below meth c Q cX12_readMoveNumber D cy ci h A0 .int o) {self21 : Int32 → Int32 → Int32 → (Nat → Int32) → (Nat → Nat → Int32) → Option (Int32 × MS)} (hself21 : ∀ (x1 : Int32) (x2 : Int32) (x3 : Int32) (I : Nat → Int32) (A : Nat → Nat → Int32) (H : Heap) (locs : List Loc) (ls : Array Slot), self21 x1 x2 x3 I A = some o → mH D cy ci h A0 s H locs I A → lv_has ls 4 [(0, .ref (h 0)), (1, .int x1), (2, .int x2), (3, .int x3)] → W p l e ({ frames := 1, cells := 0, slots := 0, locals := 21 } : Room) s m args below meth c H locs 0 0 Q (F0 m 21 ls [])) {x1 : Int32} {x2 : Int32} {x3 : Int32} {I : Nat → Int32} {A : Nat → Nat → Int32} {H : Heap} {locs : List Loc} {ls : Array Slot} (hf : f_readMoveNumber_21s self21 x1 x2 x3 I A = some o) (hM : mH D cy ci h A0 s H locs I A) (hl : lv_has ls 4 [(0, .ref (h 0)), (1, .int x1), (2, .int x2), (3, .int x3)]) : W p l e ({ frames := 1, cells := 0, slots := 0, locals := 21 } : Room) s m args below meth c H locs 0 0 Q (F0 m 21 ls []) := by
  obtain ⟨hx, hb, hml, hown, hts⟩ := id X
  unfold f_readMoveNumber_21s at hf
  refine lv_aload_n hx hb dX12_readMoveNumber_21 rfl (lv_at hl 0 rfl) ?_
  obtain ⟨o1, ho, hf⟩ := m_clE hf
  refine m_callVi X hM (c_look ho) gX12_readMoveNumber_X12_look rfl ⟨rfl, rfl⟩ hd_look ⟨Nat.le_of_ble_eq_true rfl, Nat.le_of_ble_eq_true rfl⟩ rfl hl.1 rfl (Nat.le_of_ble_eq_true rfl) dX12_readMoveNumber_22 (fun H locs hM => ?_)
  clear ho
  obtain ⟨o2, ho, hf⟩ := m_clE hf
  refine m_callSi X hM (c_isDigit ho) gX12_readMoveNumber_X12_isDigit rfl ⟨rfl, rfl⟩ hd_isDigit ⟨Nat.le_of_ble_eq_true rfl, Nat.le_of_ble_eq_true rfl⟩ rfl hl.1 rfl (Nat.le_of_ble_eq_true rfl) dX12_readMoveNumber_25 (fun H locs hM => ?_)
  clear ho
  refine lv_if_eq (tgt := 65) hx hb dX12_readMoveNumber_28 (by decide) (fun cc1 => ?_) (fun cc1 => ?_)
  · replace hf := m_ifT hf cc1
    exact w_readMoveNumber_65 X hret _ _ _ _ _ _ _ _ hf hM (lv_sub hl [0, 1, 2] rfl)
  · replace hf := m_ifF hf cc1
    refine lv_iload_n hx hb dX12_readMoveNumber_31 rfl (lv_at hl 3 rfl) ?_
    refine lv_iconst (v := (4 : Int32)) hx hb dX12_readMoveNumber_32 (by decide) ?_
    refine lv_icmp_ge (tgt := 65) hx hb dX12_readMoveNumber_33 (by decide) (fun cc1 => ?_) (fun cc1 => ?_)
    · replace hf := m_ifT hf cc1
      exact w_readMoveNumber_65 X hret _ _ _ _ _ _ _ _ hf hM (lv_sub hl [0, 1, 2] rfl)
    · replace hf := m_ifF hf cc1
      refine lv_bipush (v := (10 : Int32)) hx hb dX12_readMoveNumber_36 (by decide) ?_
      refine lv_iload_n hx hb dX12_readMoveNumber_38 rfl (lv_at hl 2 rfl) ?_
      refine lv_imul hx hb dX12_readMoveNumber_39 ?_
      obtain ⟨v3, ev, hf⟩ := m_bndE hf
      refine m_top ev ?_
      clear ev
      refine lv_aload_n hx hb dX12_readMoveNumber_40 rfl (lv_at hl 0 rfl) ?_
      obtain ⟨o4, ho, hf⟩ := m_clE hf
      refine m_callVi X hM (c_look ho) gX12_readMoveNumber_X12_look rfl ⟨rfl, rfl⟩ hd_look ⟨Nat.le_of_ble_eq_true rfl, Nat.le_of_ble_eq_true rfl⟩ rfl hl.1 rfl (Nat.le_of_ble_eq_true rfl) dX12_readMoveNumber_41 (fun H locs hM => ?_)
      clear ho
      refine lv_iadd hx hb dX12_readMoveNumber_44 ?_
      obtain ⟨v5, ev, hf⟩ := m_bndE hf
      refine m_top ev ?_
      clear ev
      refine lv_bipush (v := (48 : Int32)) hx hb dX12_readMoveNumber_45 (by decide) ?_
      refine lv_isub hx hb dX12_readMoveNumber_47 ?_
      obtain ⟨v6, ev, hf⟩ := m_bndE hf
      refine m_top ev ?_
      clear ev
      refine lv_istore_n (lv' := [(2, .int v6), (0, .ref (h 0)), (1, .int x1), (3, .int x3)]) hx hb dX12_readMoveNumber_48 rfl hl (by decide) rfl (fun ls hl => ?_)
      obtain ⟨v7, ev, hf⟩ := m_bndE hf
      refine lv_iinc (v := v7) (lv' := [(3, .int v7), (2, .int v6), (0, .ref (h 0)), (1, .int x1)]) hx hb dX12_readMoveNumber_49 hl (k := 3) rfl (by rw [ev]; rfl) (by decide) rfl (fun ls hl => ?_)
      clear ev
      refine lv_aload_n hx hb dX12_readMoveNumber_52 rfl (lv_at hl 2 rfl) ?_
      refine lv_dup hx hb dX12_readMoveNumber_53 rfl ?_
      refine m_get (v := .int (o4.2.1 37)) X hw_readMoveNumber hM 37 (by decide) fl_readMoveNumber_37 rfl dX12_readMoveNumber_54 ?_
      refine lv_iconst (v := (1 : Int32)) hx hb dX12_readMoveNumber_57 (by decide) ?_
      refine lv_iadd hx hb dX12_readMoveNumber_58 ?_
      obtain ⟨v8, ev, hf⟩ := m_bndE hf
      refine m_top ev ?_
      clear ev
      refine m_put X hw_readMoveNumber hM 37 (by decide) fl_readMoveNumber_37 mi_37 rfl (tyX12_ok 37 (by decide)) dX12_readMoveNumber_59 (fun H locs hM => ?_)
      obtain ⟨I9, ev, hf⟩ := m_bndE hf
      replace hM := m_hI hM ev
      clear ev
      refine lv_goto (tgt := 21) hx hb dX12_readMoveNumber_62 (by decide) ?_
      exact hself21 _ _ _ _ _ _ _ _ hf hM (lv_sub hl [2, 3, 1, 0] rfl)
noncomputable def f_readMoveNumber_21 : Nat → Int32 → Int32 → Int32 → (Nat → Int32) → (Nat → Nat → Int32) → Option (Int32 × MS)
  | 0 => fun _ _ _ _ _ => none
  | n + 1 => f_readMoveNumber_21s (f_readMoveNumber_21 n)
theorem w_readMoveNumber_21 {p : Program} {l : Launch} {e : Env} {s : State} {m : MethodId} {args : Array Value} {below : List Frame} {meth : Method} {c : Code} {Q : State → Prop} {D : va_G} {cy ci : ClassId} {h : Nat → Nat} {A0 : Nat → Prop} {o : Int32 × MS} (X : CallFix p m c cX12_readMoveNumber 4 s args wsX12_readMoveNumber RX12) (hret : mRi p l e ({ frames := 1, cells := 0, slots := 0, locals := 21 } : Room) s m args below meth c Q cX12_readMoveNumber D cy ci h A0 .int o) (n : Nat) : ∀ (x1 : Int32) (x2 : Int32) (x3 : Int32) (I : Nat → Int32) (A : Nat → Nat → Int32) (H : Heap) (locs : List Loc) (ls : Array Slot), f_readMoveNumber_21 n x1 x2 x3 I A = some o → mH D cy ci h A0 s H locs I A → lv_has ls 4 [(0, .ref (h 0)), (1, .int x1), (2, .int x2), (3, .int x3)] → W p l e ({ frames := 1, cells := 0, slots := 0, locals := 21 } : Room) s m args below meth c H locs 0 0 Q (F0 m 21 ls []) := by
  induction n with
  | zero => intro x1 x2 x3 I A H locs ls hf; cases hf
  | succ n ih => intro x1 x2 x3 I A H locs ls hf hM hl; exact ws_readMoveNumber_21 X hret (self21 := f_readMoveNumber_21 n) ih hf hM hl
noncomputable def f_readMoveNumber_0 (I : Nat → Int32) (A : Nat → Nat → Int32) : Option (Int32 × MS) :=
  m_cl (f_look  I A) (fun r1 Ic1 Ac1 =>
  m_cl (f_isDigit r1 Ic1 Ac1) (fun r2 Ic2 Ac2 =>
  m_if (r2 = 0) (
  some ((0 : Int32), (Ic2, Ac2))
  ) (
  f_readMoveNumber_21 mFuel (Ic2 37) (0 : Int32) (0 : Int32) Ic2 Ac2
  )))

set_option maxRecDepth 100000 in
set_option maxHeartbeats 4000000 in
theorem w_readMoveNumber_0 {p : Program} {l : Launch} {e : Env} {s : State} {m : MethodId} {args : Array Value} {below : List Frame} {meth : Method} {c : Code} {Q : State → Prop} {D : va_G} {cy ci : ClassId} {h : Nat → Nat} {A0 : Nat → Prop} {o : Int32 × MS} (X : CallFix p m c cX12_readMoveNumber 4 s args wsX12_readMoveNumber RX12) (hret : mRi p l e ({ frames := 1, cells := 0, slots := 0, locals := 21 } : Room) s m args below meth c Q cX12_readMoveNumber D cy ci h A0 .int o) {I : Nat → Int32} {A : Nat → Nat → Int32} {H : Heap} {locs : List Loc} {ls : Array Slot} (hf : f_readMoveNumber_0  I A = some o) (hM : mH D cy ci h A0 s H locs I A) (hl : lv_has ls 4 [(0, .ref (h 0))]) : W p l e ({ frames := 1, cells := 0, slots := 0, locals := 21 } : Room) s m args below meth c H locs 0 0 Q (F0 m 0 ls []) := by
  obtain ⟨hx, hb, hml, hown, hts⟩ := id X
  unfold f_readMoveNumber_0 at hf
  refine lv_aload_n hx hb dX12_readMoveNumber_0 rfl (lv_at hl 0 rfl) ?_
  obtain ⟨o1, ho, hf⟩ := m_clE hf
  refine m_callVi X hM (c_look ho) gX12_readMoveNumber_X12_look rfl ⟨rfl, rfl⟩ hd_look ⟨Nat.le_of_ble_eq_true rfl, Nat.le_of_ble_eq_true rfl⟩ rfl hl.1 rfl (Nat.le_of_ble_eq_true rfl) dX12_readMoveNumber_1 (fun H locs hM => ?_)
  clear ho
  obtain ⟨o2, ho, hf⟩ := m_clE hf
  refine m_callSi X hM (c_isDigit ho) gX12_readMoveNumber_X12_isDigit rfl ⟨rfl, rfl⟩ hd_isDigit ⟨Nat.le_of_ble_eq_true rfl, Nat.le_of_ble_eq_true rfl⟩ rfl hl.1 rfl (Nat.le_of_ble_eq_true rfl) dX12_readMoveNumber_4 (fun H locs hM => ?_)
  clear ho
  refine lv_if_ne (tgt := 12) hx hb dX12_readMoveNumber_7 (by decide) (fun cc1 => ?_) (fun cc1 => ?_)
  · replace hf := m_ifF hf cc1
    refine lv_aload_n hx hb dX12_readMoveNumber_12 rfl (lv_at hl 0 rfl) ?_
    refine m_get (v := .int (o2.2.1 37)) X hw_readMoveNumber hM 37 (by decide) fl_readMoveNumber_37 rfl dX12_readMoveNumber_13 ?_
    refine lv_istore_n (lv' := [(1, .int (o2.2.1 37)), (0, .ref (h 0))]) hx hb dX12_readMoveNumber_16 rfl hl (by decide) rfl (fun ls hl => ?_)
    refine lv_iconst (v := (0 : Int32)) hx hb dX12_readMoveNumber_17 (by decide) ?_
    refine lv_istore_n (lv' := [(2, .int (0 : Int32)), (1, .int (o2.2.1 37)), (0, .ref (h 0))]) hx hb dX12_readMoveNumber_18 rfl hl (by decide) rfl (fun ls hl => ?_)
    refine lv_iconst (v := (0 : Int32)) hx hb dX12_readMoveNumber_19 (by decide) ?_
    refine lv_istore_n (lv' := [(3, .int (0 : Int32)), (2, .int (0 : Int32)), (1, .int (o2.2.1 37)), (0, .ref (h 0))]) hx hb dX12_readMoveNumber_20 rfl hl (by decide) rfl (fun ls hl => ?_)
    exact w_readMoveNumber_21 X hret _ _ _ _ _ _ _ _ _ hf hM (lv_sub hl [3, 2, 1, 0] rfl)
  · replace hf := m_ifT hf cc1
    refine lv_iconst (v := (0 : Int32)) hx hb dX12_readMoveNumber_10 (by decide) ?_
    cases hf
    exact hret H locs _ ls hM rfl dX12_readMoveNumber_11
noncomputable def f_readMoveNumber (I : Nat → Int32) (A : Nat → Nat → Int32) : Option (Int32 × MS) := f_readMoveNumber_0  I A
theorem c_readMoveNumber {l : Launch} {D : va_G} {cy ci : ClassId} {h : Nat → Nat} {I : Nat → Int32} {A : Nat → Nat → Int32} {o : Int32 × MS} (hf : f_readMoveNumber  I A = some o) : mMi l yX12_readMoveNumber wsX12_readMoveNumber ({ frames := 1, cells := 0, slots := 0, locals := 21 } : Room) [.ref (h 0)] D cy ci h I A o :=
  m_entryI (cc := cX12_readMoveNumber) (maxL := 4) (by decide) rfl rfl (Nat.le_of_ble_eq_true rfl) (fun p e s m args below meth c A0 Q H locs ls X hret hM hl => w_readMoveNumber_0 X hret hf hM (lv_sub hl [0] rfl))
theorem hw_readMove : ∀ w ∈ wsX120, w ∈ wsX12_readMove := by decide +kernel
theorem fl_readMove_7 : Cond.fieldLink RX12 17 "MoveTextsModel" "count" "[I" ∈ wsX12_readMove := by decide +kernel
theorem fl_readMove_37 : Cond.fieldLink RX12 267 "MoveTextsModel" "at" "I" ∈ wsX12_readMove := by decide +kernel
theorem hd_readMove : yX12_readMove.cls = RX12 ∧ yX12_readMove.cls ≠ "java/lang/invoke/MethodHandle" ∧ yX12_readMove.cls ≠ "java/lang/invoke/VarHandle" ∧ (parseMethodDescriptor yX12_readMove.desc).map (fun d => d.parameters.length) = some 2 := by decide +kernel
noncomputable def f_readMove_81 (self25 : Int32 → Int32 → Int32 → (Nat → Int32) → (Nat → Nat → Int32) → Option (Int32 × MS)) (x1 : Int32) (x2 : Int32) (x3 : Int32) (I : Nat → Int32) (A : Nat → Nat → Int32) : Option (Int32 × MS) :=
  m_bnd ((I 37) + (1 : Int32)) (fun v1 =>
  m_bnd (upd I 37 v1) (fun I2 =>
  self25 x1 x2 x3 I2 A))

set_option maxRecDepth 100000 in
set_option maxHeartbeats 4000000 in
theorem w_readMove_81 {p : Program} {l : Launch} {e : Env} {s : State} {m : MethodId} {args : Array Value} {below : List Frame} {meth : Method} {c : Code} {Q : State → Prop} {D : va_G} {cy ci : ClassId} {h : Nat → Nat} {A0 : Nat → Prop} {o : Int32 × MS} (X : CallFix p m c cX12_readMove 5 s args wsX12_readMove RX12) (hret : mRi p l e ({ frames := 8, cells := 0, slots := 0, locals := 210 } : Room) s m args below meth c Q cX12_readMove D cy ci h A0 .int o) {self25 : Int32 → Int32 → Int32 → (Nat → Int32) → (Nat → Nat → Int32) → Option (Int32 × MS)} (hself25 : ∀ (x1 : Int32) (x2 : Int32) (x3 : Int32) (I : Nat → Int32) (A : Nat → Nat → Int32) (H : Heap) (locs : List Loc) (ls : Array Slot), self25 x1 x2 x3 I A = some o → mH D cy ci h A0 s H locs I A → lv_has ls 5 [(0, .ref (h 0)), (1, .int x1), (2, .int x2), (3, .int x3)] → W p l e ({ frames := 8, cells := 0, slots := 0, locals := 210 } : Room) s m args below meth c H locs 0 0 Q (F0 m 25 ls [])) {x1 : Int32} {x2 : Int32} {x3 : Int32} {I : Nat → Int32} {A : Nat → Nat → Int32} {H : Heap} {locs : List Loc} {ls : Array Slot} (hf : f_readMove_81 self25 x1 x2 x3 I A = some o) (hM : mH D cy ci h A0 s H locs I A) (hl : lv_has ls 5 [(0, .ref (h 0)), (1, .int x1), (2, .int x2), (3, .int x3)]) : W p l e ({ frames := 8, cells := 0, slots := 0, locals := 210 } : Room) s m args below meth c H locs 0 0 Q (F0 m 81 ls []) := by
  obtain ⟨hx, hb, hml, hown, hts⟩ := id X
  unfold f_readMove_81 at hf
  refine lv_aload_n hx hb dX12_readMove_81 rfl (lv_at hl 0 rfl) ?_
  refine lv_dup hx hb dX12_readMove_82 rfl ?_
  refine m_get (v := .int (I 37)) X hw_readMove hM 37 (by decide) fl_readMove_37 rfl dX12_readMove_83 ?_
  refine lv_iconst (v := (1 : Int32)) hx hb dX12_readMove_86 (by decide) ?_
  refine lv_iadd hx hb dX12_readMove_87 ?_
  obtain ⟨v1, ev, hf⟩ := m_bndE hf
  refine m_top ev ?_
  clear ev
  refine m_put X hw_readMove hM 37 (by decide) fl_readMove_37 mi_37 rfl (tyX12_ok 37 (by decide)) dX12_readMove_88 (fun H locs hM => ?_)
  obtain ⟨I2, ev, hf⟩ := m_bndE hf
  replace hM := m_hI hM ev
  clear ev
  refine lv_goto (tgt := 25) hx hb dX12_readMove_91 (by decide) ?_
  exact hself25 _ _ _ _ _ _ _ _ hf hM (lv_sub hl [0, 1, 2, 3] rfl)
noncomputable def f_readMove_122 (x3 : Int32) (t0 : Int32) (I : Nat → Int32) (A : Nat → Nat → Int32) : Option (Int32 × MS) :=
  m_cl (f_fault t0 x3 I A) (fun r1 Ic1 Ac1 =>
  m_bnd (-r1) (fun v2 =>
  some (v2, (Ic1, Ac1))))

set_option maxRecDepth 100000 in
set_option maxHeartbeats 4000000 in
theorem w_readMove_122 {p : Program} {l : Launch} {e : Env} {s : State} {m : MethodId} {args : Array Value} {below : List Frame} {meth : Method} {c : Code} {Q : State → Prop} {D : va_G} {cy ci : ClassId} {h : Nat → Nat} {A0 : Nat → Prop} {o : Int32 × MS} (X : CallFix p m c cX12_readMove 5 s args wsX12_readMove RX12) (hret : mRi p l e ({ frames := 8, cells := 0, slots := 0, locals := 210 } : Room) s m args below meth c Q cX12_readMove D cy ci h A0 .int o) {x3 : Int32} {t0 : Int32} {I : Nat → Int32} {A : Nat → Nat → Int32} {H : Heap} {locs : List Loc} {ls : Array Slot} (hf : f_readMove_122 x3 t0 I A = some o) (hM : mH D cy ci h A0 s H locs I A) (hl : lv_has ls 5 [(3, .int x3)]) : W p l e ({ frames := 8, cells := 0, slots := 0, locals := 210 } : Room) s m args below meth c H locs 0 0 Q (F0 m 122 ls [.int t0]) := by
  obtain ⟨hx, hb, hml, hown, hts⟩ := id X
  unfold f_readMove_122 at hf
  refine lv_iload_n hx hb dX12_readMove_122 rfl (lv_at hl 0 rfl) ?_
  obtain ⟨o1, ho, hf⟩ := m_clE hf
  refine m_callSi X hM (c_fault ho) gX12_readMove_X12_fault rfl ⟨rfl, rfl⟩ hd_fault ⟨Nat.le_of_ble_eq_true rfl, Nat.le_of_ble_eq_true rfl⟩ rfl hl.1 rfl (Nat.le_of_ble_eq_true rfl) dX12_readMove_123 (fun H locs hM => ?_)
  clear ho
  refine lv_ineg hx hb dX12_readMove_126 ?_
  obtain ⟨v2, ev, hf⟩ := m_bndE hf
  refine m_top ev ?_
  clear ev
  cases hf
  exact hret H locs _ ls hM rfl dX12_readMove_127
noncomputable def f_readMove_25s (self25 : Int32 → Int32 → Int32 → (Nat → Int32) → (Nat → Nat → Int32) → Option (Int32 × MS)) (x1 : Int32) (x2 : Int32) (x3 : Int32) (I : Nat → Int32) (A : Nat → Nat → Int32) : Option (Int32 × MS) :=
  m_cl (f_look  I A) (fun r1 Ic1 Ac1 =>
  m_cl (f_isLetter r1 Ic1 Ac1) (fun r2 Ic2 Ac2 =>
  m_if (r2 = 0) (
  m_cl (f_look  Ic2 Ac2) (fun r3 Ic3 Ac3 =>
  m_cl (f_isDigit r3 Ic3 Ac3) (fun r4 Ic4 Ac4 =>
  m_if (r4 = 0) (
  m_cl (f_look  Ic4 Ac4) (fun r5 Ic5 Ac5 =>
  m_if (r5 = (61 : Int32)) (
  f_readMove_81 self25 x1 x2 x3 Ic5 Ac5
  ) (
  m_cl (f_look  Ic5 Ac5) (fun r6 Ic6 Ac6 =>
  m_if (r6 = (45 : Int32)) (
  f_readMove_81 self25 x1 x2 x3 Ic6 Ac6
  ) (
  m_cl (f_look  Ic6 Ac6) (fun r7 Ic7 Ac7 =>
  m_if (r7 = (43 : Int32)) (
  f_readMove_81 self25 x1 x2 x3 Ic7 Ac7
  ) (
  m_cl (f_look  Ic7 Ac7) (fun r8 Ic8 Ac8 =>
  m_if (r8 = (35 : Int32)) (
  f_readMove_81 self25 x1 x2 x3 Ic8 Ac8
  ) (
  m_cl (f_understood x3 (Ic8 37) Ic8 Ac8) (fun r9 Ic9 Ac9 =>
  m_if (0 ≤ r9) (
  m_cl (f_childWith x1 x2 r9 Ic9 Ac9) (fun r10 Ic10 Ac10 =>
  m_if (r10 < 0) (
  m_chk (¬ (x1 < 0 ∨ 2 ≤ (x1).toNatClampNeg)) (
  m_bnd (Ac10 7 (x1).toNatClampNeg) (fun v11 =>
  m_if (v11 = (300 : Int32)) (
  m_cl (f_fault (8 : Int32) x3 Ic10 Ac10) (fun r13 Ic13 Ac13 =>
  m_bnd (-r13) (fun v14 =>
  some (v14, (Ic13, Ac13))))
  ) (
  m_cl (f_append x1 x2 r9 Ic10 Ac10) (fun r12 Ic12 Ac12 =>
  some (r12, (Ic12, Ac12)))
  )))
  ) (
  m_cl (f_fault (6 : Int32) x3 Ic10 Ac10) (fun r15 Ic15 Ac15 =>
  m_bnd (-r15) (fun v16 =>
  some (v16, (Ic15, Ac15))))
  ))
  ) (
  m_if (r9 = (-2 : Int32)) (
  f_readMove_122 x3 (5 : Int32) Ic9 Ac9
  ) (
  f_readMove_122 x3 (4 : Int32) Ic9 Ac9
  )
  ))
  ))
  ))
  ))
  ))
  ) (
  f_readMove_81 self25 x1 x2 x3 Ic4 Ac4
  )))
  ) (
  f_readMove_81 self25 x1 x2 x3 Ic2 Ac2
  )))

set_option maxRecDepth 100000 in
set_option maxHeartbeats 4000000 in
theorem ws_readMove_25 {p : Program} {l : Launch} {e : Env} {s : State} {m : MethodId} {args : Array Value} {below : List Frame} {meth : Method} {c : Code} {Q : State → Prop} {D : va_G} {cy ci : ClassId} {h : Nat → Nat} {A0 : Nat → Prop} {o : Int32 × MS} (X : CallFix p m c cX12_readMove 5 s args wsX12_readMove RX12) (hret : mRi p l e ({ frames := 8, cells := 0, slots := 0, locals := 210 } : Room) s m args below meth c Q cX12_readMove D cy ci h A0 .int o) {self25 : Int32 → Int32 → Int32 → (Nat → Int32) → (Nat → Nat → Int32) → Option (Int32 × MS)} (hself25 : ∀ (x1 : Int32) (x2 : Int32) (x3 : Int32) (I : Nat → Int32) (A : Nat → Nat → Int32) (H : Heap) (locs : List Loc) (ls : Array Slot), self25 x1 x2 x3 I A = some o → mH D cy ci h A0 s H locs I A → lv_has ls 5 [(0, .ref (h 0)), (1, .int x1), (2, .int x2), (3, .int x3)] → W p l e ({ frames := 8, cells := 0, slots := 0, locals := 210 } : Room) s m args below meth c H locs 0 0 Q (F0 m 25 ls [])) {x1 : Int32} {x2 : Int32} {x3 : Int32} {I : Nat → Int32} {A : Nat → Nat → Int32} {H : Heap} {locs : List Loc} {ls : Array Slot} (hf : f_readMove_25s self25 x1 x2 x3 I A = some o) (hM : mH D cy ci h A0 s H locs I A) (hl : lv_has ls 5 [(0, .ref (h 0)), (1, .int x1), (2, .int x2), (3, .int x3)]) : W p l e ({ frames := 8, cells := 0, slots := 0, locals := 210 } : Room) s m args below meth c H locs 0 0 Q (F0 m 25 ls []) := by
  obtain ⟨hx, hb, hml, hown, hts⟩ := id X
  unfold f_readMove_25s at hf
  refine lv_aload_n hx hb dX12_readMove_25 rfl (lv_at hl 0 rfl) ?_
  obtain ⟨o1, ho, hf⟩ := m_clE hf
  refine m_callVi X hM (c_look ho) gX12_readMove_X12_look rfl ⟨rfl, rfl⟩ hd_look ⟨Nat.le_of_ble_eq_true rfl, Nat.le_of_ble_eq_true rfl⟩ rfl hl.1 rfl (Nat.le_of_ble_eq_true rfl) dX12_readMove_26 (fun H locs hM => ?_)
  clear ho
  obtain ⟨o2, ho, hf⟩ := m_clE hf
  refine m_callSi X hM (c_isLetter ho) gX12_readMove_X12_isLetter rfl ⟨rfl, rfl⟩ hd_isLetter ⟨Nat.le_of_ble_eq_true rfl, Nat.le_of_ble_eq_true rfl⟩ rfl hl.1 rfl (Nat.le_of_ble_eq_true rfl) dX12_readMove_29 (fun H locs hM => ?_)
  clear ho
  refine lv_if_ne (tgt := 81) hx hb dX12_readMove_32 (by decide) (fun cc1 => ?_) (fun cc1 => ?_)
  · replace hf := m_ifF hf cc1
    exact w_readMove_81 X hret hself25 hf hM (lv_sub hl [0, 1, 2, 3] rfl)
  · replace hf := m_ifT hf cc1
    refine lv_aload_n hx hb dX12_readMove_35 rfl (lv_at hl 0 rfl) ?_
    obtain ⟨o3, ho, hf⟩ := m_clE hf
    refine m_callVi X hM (c_look ho) gX12_readMove_X12_look rfl ⟨rfl, rfl⟩ hd_look ⟨Nat.le_of_ble_eq_true rfl, Nat.le_of_ble_eq_true rfl⟩ rfl hl.1 rfl (Nat.le_of_ble_eq_true rfl) dX12_readMove_36 (fun H locs hM => ?_)
    clear ho
    obtain ⟨o4, ho, hf⟩ := m_clE hf
    refine m_callSi X hM (c_isDigit ho) gX12_readMove_X12_isDigit rfl ⟨rfl, rfl⟩ hd_isDigit ⟨Nat.le_of_ble_eq_true rfl, Nat.le_of_ble_eq_true rfl⟩ rfl hl.1 rfl (Nat.le_of_ble_eq_true rfl) dX12_readMove_39 (fun H locs hM => ?_)
    clear ho
    refine lv_if_ne (tgt := 81) hx hb dX12_readMove_42 (by decide) (fun cc1 => ?_) (fun cc1 => ?_)
    · replace hf := m_ifF hf cc1
      exact w_readMove_81 X hret hself25 hf hM (lv_sub hl [0, 1, 2, 3] rfl)
    · replace hf := m_ifT hf cc1
      refine lv_aload_n hx hb dX12_readMove_45 rfl (lv_at hl 0 rfl) ?_
      obtain ⟨o5, ho, hf⟩ := m_clE hf
      refine m_callVi X hM (c_look ho) gX12_readMove_X12_look rfl ⟨rfl, rfl⟩ hd_look ⟨Nat.le_of_ble_eq_true rfl, Nat.le_of_ble_eq_true rfl⟩ rfl hl.1 rfl (Nat.le_of_ble_eq_true rfl) dX12_readMove_46 (fun H locs hM => ?_)
      clear ho
      refine lv_bipush (v := (61 : Int32)) hx hb dX12_readMove_49 (by decide) ?_
      refine lv_icmp_eq (tgt := 81) hx hb dX12_readMove_51 (by decide) (fun cc1 => ?_) (fun cc1 => ?_)
      · replace hf := m_ifT hf cc1
        exact w_readMove_81 X hret hself25 hf hM (lv_sub hl [0, 1, 2, 3] rfl)
      · replace hf := m_ifF hf cc1
        refine lv_aload_n hx hb dX12_readMove_54 rfl (lv_at hl 0 rfl) ?_
        obtain ⟨o6, ho, hf⟩ := m_clE hf
        refine m_callVi X hM (c_look ho) gX12_readMove_X12_look rfl ⟨rfl, rfl⟩ hd_look ⟨Nat.le_of_ble_eq_true rfl, Nat.le_of_ble_eq_true rfl⟩ rfl hl.1 rfl (Nat.le_of_ble_eq_true rfl) dX12_readMove_55 (fun H locs hM => ?_)
        clear ho
        refine lv_bipush (v := (45 : Int32)) hx hb dX12_readMove_58 (by decide) ?_
        refine lv_icmp_eq (tgt := 81) hx hb dX12_readMove_60 (by decide) (fun cc1 => ?_) (fun cc1 => ?_)
        · replace hf := m_ifT hf cc1
          exact w_readMove_81 X hret hself25 hf hM (lv_sub hl [0, 1, 2, 3] rfl)
        · replace hf := m_ifF hf cc1
          refine lv_aload_n hx hb dX12_readMove_63 rfl (lv_at hl 0 rfl) ?_
          obtain ⟨o7, ho, hf⟩ := m_clE hf
          refine m_callVi X hM (c_look ho) gX12_readMove_X12_look rfl ⟨rfl, rfl⟩ hd_look ⟨Nat.le_of_ble_eq_true rfl, Nat.le_of_ble_eq_true rfl⟩ rfl hl.1 rfl (Nat.le_of_ble_eq_true rfl) dX12_readMove_64 (fun H locs hM => ?_)
          clear ho
          refine lv_bipush (v := (43 : Int32)) hx hb dX12_readMove_67 (by decide) ?_
          refine lv_icmp_eq (tgt := 81) hx hb dX12_readMove_69 (by decide) (fun cc1 => ?_) (fun cc1 => ?_)
          · replace hf := m_ifT hf cc1
            exact w_readMove_81 X hret hself25 hf hM (lv_sub hl [0, 1, 2, 3] rfl)
          · replace hf := m_ifF hf cc1
            refine lv_aload_n hx hb dX12_readMove_72 rfl (lv_at hl 0 rfl) ?_
            obtain ⟨o8, ho, hf⟩ := m_clE hf
            refine m_callVi X hM (c_look ho) gX12_readMove_X12_look rfl ⟨rfl, rfl⟩ hd_look ⟨Nat.le_of_ble_eq_true rfl, Nat.le_of_ble_eq_true rfl⟩ rfl hl.1 rfl (Nat.le_of_ble_eq_true rfl) dX12_readMove_73 (fun H locs hM => ?_)
            clear ho
            refine lv_bipush (v := (35 : Int32)) hx hb dX12_readMove_76 (by decide) ?_
            refine lv_icmp_ne (tgt := 94) hx hb dX12_readMove_78 (by decide) (fun cc1 => ?_) (fun cc1 => ?_)
            · replace hf := m_ifF hf cc1
              refine lv_aload_n hx hb dX12_readMove_94 rfl (lv_at hl 0 rfl) ?_
              refine lv_iload_n hx hb dX12_readMove_95 rfl (lv_at hl 3 rfl) ?_
              refine lv_aload_n hx hb dX12_readMove_96 rfl (lv_at hl 0 rfl) ?_
              refine m_get (v := .int (o8.2.1 37)) X hw_readMove hM 37 (by decide) fl_readMove_37 rfl dX12_readMove_97 ?_
              obtain ⟨o9, ho, hf⟩ := m_clE hf
              refine m_callVi X hM (c_understood ho) gX12_readMove_X12_understood rfl ⟨rfl, rfl⟩ hd_understood ⟨Nat.le_of_ble_eq_true rfl, Nat.le_of_ble_eq_true rfl⟩ rfl hl.1 rfl (Nat.le_of_ble_eq_true rfl) dX12_readMove_100 (fun H locs hM => ?_)
              clear ho
              refine lv_istore (lv' := [(4, .int o9.1), (0, .ref (h 0)), (1, .int x1), (2, .int x2), (3, .int x3)]) hx hb dX12_readMove_103 hl (by decide) rfl (fun ls hl => ?_)
              refine lv_iload hx hb dX12_readMove_105 (lv_at hl 0 rfl) ?_
              refine lv_if_ge (tgt := 128) hx hb dX12_readMove_107 (by decide) (fun cc1 => ?_) (fun cc1 => ?_)
              · replace hf := m_ifT hf cc1
                refine lv_aload_n hx hb dX12_readMove_128 rfl (lv_at hl 1 rfl) ?_
                refine lv_iload_n hx hb dX12_readMove_129 rfl (lv_at hl 2 rfl) ?_
                refine lv_iload_n hx hb dX12_readMove_130 rfl (lv_at hl 3 rfl) ?_
                refine lv_iload hx hb dX12_readMove_131 (lv_at hl 0 rfl) ?_
                obtain ⟨o10, ho, hf⟩ := m_clE hf
                refine m_callVi X hM (c_childWith ho) gX12_readMove_X12_childWith rfl ⟨rfl, rfl⟩ hd_childWith ⟨Nat.le_of_ble_eq_true rfl, Nat.le_of_ble_eq_true rfl⟩ rfl hl.1 rfl (Nat.le_of_ble_eq_true rfl) dX12_readMove_133 (fun H locs hM => ?_)
                clear ho
                refine lv_if_lt (tgt := 147) hx hb dX12_readMove_136 (by decide) (fun cc1 => ?_) (fun cc1 => ?_)
                · replace hf := m_ifT hf cc1
                  refine lv_aload_n hx hb dX12_readMove_147 rfl (lv_at hl 1 rfl) ?_
                  refine m_get (v := .ref (h 7)) X hw_readMove hM 7 (by decide) fl_readMove_7 rfl dX12_readMove_148 ?_
                  refine lv_iload_n hx hb dX12_readMove_151 rfl (lv_at hl 2 rfl) ?_
                  obtain ⟨cd, hf⟩ := m_chkE hf
                  refine m_iald X hM 7 3 2 rfl cd dX12_readMove_152 ?_
                  clear cd
                  obtain ⟨v11, ev, hf⟩ := m_bndE hf
                  refine m_top ev ?_
                  clear ev
                  refine lv_sipush (v := (300 : Int32)) hx hb dX12_readMove_153 (by decide) ?_
                  refine lv_icmp_ne (tgt := 167) hx hb dX12_readMove_156 (by decide) (fun cc1 => ?_) (fun cc1 => ?_)
                  · replace hf := m_ifF hf cc1
                    refine lv_aload_n hx hb dX12_readMove_167 rfl (lv_at hl 1 rfl) ?_
                    refine lv_iload_n hx hb dX12_readMove_168 rfl (lv_at hl 2 rfl) ?_
                    refine lv_iload_n hx hb dX12_readMove_169 rfl (lv_at hl 3 rfl) ?_
                    refine lv_iload hx hb dX12_readMove_170 (lv_at hl 0 rfl) ?_
                    obtain ⟨o12, ho, hf⟩ := m_clE hf
                    refine m_callVi X hM (c_append ho) gX12_readMove_X12_append rfl ⟨rfl, rfl⟩ hd_append ⟨Nat.le_of_ble_eq_true rfl, Nat.le_of_ble_eq_true rfl⟩ rfl hl.1 rfl (Nat.le_of_ble_eq_true rfl) dX12_readMove_172 (fun H locs hM => ?_)
                    clear ho
                    cases hf
                    exact hret H locs _ ls hM rfl dX12_readMove_175
                  · replace hf := m_ifT hf cc1
                    refine lv_bipush (v := (8 : Int32)) hx hb dX12_readMove_159 (by decide) ?_
                    refine lv_iload_n hx hb dX12_readMove_161 rfl (lv_at hl 4 rfl) ?_
                    obtain ⟨o13, ho, hf⟩ := m_clE hf
                    refine m_callSi X hM (c_fault ho) gX12_readMove_X12_fault rfl ⟨rfl, rfl⟩ hd_fault ⟨Nat.le_of_ble_eq_true rfl, Nat.le_of_ble_eq_true rfl⟩ rfl hl.1 rfl (Nat.le_of_ble_eq_true rfl) dX12_readMove_162 (fun H locs hM => ?_)
                    clear ho
                    refine lv_ineg hx hb dX12_readMove_165 ?_
                    obtain ⟨v14, ev, hf⟩ := m_bndE hf
                    refine m_top ev ?_
                    clear ev
                    cases hf
                    exact hret H locs _ ls hM rfl dX12_readMove_166
                · replace hf := m_ifF hf cc1
                  refine lv_bipush (v := (6 : Int32)) hx hb dX12_readMove_139 (by decide) ?_
                  refine lv_iload_n hx hb dX12_readMove_141 rfl (lv_at hl 4 rfl) ?_
                  obtain ⟨o15, ho, hf⟩ := m_clE hf
                  refine m_callSi X hM (c_fault ho) gX12_readMove_X12_fault rfl ⟨rfl, rfl⟩ hd_fault ⟨Nat.le_of_ble_eq_true rfl, Nat.le_of_ble_eq_true rfl⟩ rfl hl.1 rfl (Nat.le_of_ble_eq_true rfl) dX12_readMove_142 (fun H locs hM => ?_)
                  clear ho
                  refine lv_ineg hx hb dX12_readMove_145 ?_
                  obtain ⟨v16, ev, hf⟩ := m_bndE hf
                  refine m_top ev ?_
                  clear ev
                  cases hf
                  exact hret H locs _ ls hM rfl dX12_readMove_146
              · replace hf := m_ifF hf cc1
                refine lv_iload hx hb dX12_readMove_110 (lv_at hl 0 rfl) ?_
                refine lv_bipush (v := (-2 : Int32)) hx hb dX12_readMove_112 (by decide) ?_
                refine lv_icmp_ne (tgt := 121) hx hb dX12_readMove_114 (by decide) (fun cc1 => ?_) (fun cc1 => ?_)
                · replace hf := m_ifF hf cc1
                  refine lv_iconst (v := (4 : Int32)) hx hb dX12_readMove_121 (by decide) ?_
                  exact w_readMove_122 X hret hf hM (lv_sub hl [4] rfl)
                · replace hf := m_ifT hf cc1
                  refine lv_iconst (v := (5 : Int32)) hx hb dX12_readMove_117 (by decide) ?_
                  refine lv_goto (tgt := 122) hx hb dX12_readMove_118 (by decide) ?_
                  exact w_readMove_122 X hret hf hM (lv_sub hl [4] rfl)
            · replace hf := m_ifT hf cc1
              exact w_readMove_81 X hret hself25 hf hM (lv_sub hl [0, 1, 2, 3] rfl)
noncomputable def f_readMove_25 : Nat → Int32 → Int32 → Int32 → (Nat → Int32) → (Nat → Nat → Int32) → Option (Int32 × MS)
  | 0 => fun _ _ _ _ _ => none
  | n + 1 => f_readMove_25s (f_readMove_25 n)
theorem w_readMove_25 {p : Program} {l : Launch} {e : Env} {s : State} {m : MethodId} {args : Array Value} {below : List Frame} {meth : Method} {c : Code} {Q : State → Prop} {D : va_G} {cy ci : ClassId} {h : Nat → Nat} {A0 : Nat → Prop} {o : Int32 × MS} (X : CallFix p m c cX12_readMove 5 s args wsX12_readMove RX12) (hret : mRi p l e ({ frames := 8, cells := 0, slots := 0, locals := 210 } : Room) s m args below meth c Q cX12_readMove D cy ci h A0 .int o) (n : Nat) : ∀ (x1 : Int32) (x2 : Int32) (x3 : Int32) (I : Nat → Int32) (A : Nat → Nat → Int32) (H : Heap) (locs : List Loc) (ls : Array Slot), f_readMove_25 n x1 x2 x3 I A = some o → mH D cy ci h A0 s H locs I A → lv_has ls 5 [(0, .ref (h 0)), (1, .int x1), (2, .int x2), (3, .int x3)] → W p l e ({ frames := 8, cells := 0, slots := 0, locals := 210 } : Room) s m args below meth c H locs 0 0 Q (F0 m 25 ls []) := by
  induction n with
  | zero => intro x1 x2 x3 I A H locs ls hf; cases hf
  | succ n ih => intro x1 x2 x3 I A H locs ls hf hM hl; exact ws_readMove_25 X hret (self25 := f_readMove_25 n) ih hf hM hl
noncomputable def f_readMove_0 (x1 : Int32) (x2 : Int32) (I : Nat → Int32) (A : Nat → Nat → Int32) : Option (Int32 × MS) :=
  m_cl (f_look  I A) (fun r1 Ic1 Ac1 =>
  m_cl (f_isLetter r1 Ic1 Ac1) (fun r2 Ic2 Ac2 =>
  m_if (r2 = 0) (
  m_cl (f_fault (1 : Int32) (Ic2 37) Ic2 Ac2) (fun r3 Ic3 Ac3 =>
  m_bnd (-r3) (fun v4 =>
  some (v4, (Ic3, Ac3))))
  ) (
  f_readMove_25 mFuel x1 x2 (I 37) Ic2 Ac2
  )))

set_option maxRecDepth 100000 in
set_option maxHeartbeats 4000000 in
theorem w_readMove_0 {p : Program} {l : Launch} {e : Env} {s : State} {m : MethodId} {args : Array Value} {below : List Frame} {meth : Method} {c : Code} {Q : State → Prop} {D : va_G} {cy ci : ClassId} {h : Nat → Nat} {A0 : Nat → Prop} {o : Int32 × MS} (X : CallFix p m c cX12_readMove 5 s args wsX12_readMove RX12) (hret : mRi p l e ({ frames := 8, cells := 0, slots := 0, locals := 210 } : Room) s m args below meth c Q cX12_readMove D cy ci h A0 .int o) {x1 : Int32} {x2 : Int32} {I : Nat → Int32} {A : Nat → Nat → Int32} {H : Heap} {locs : List Loc} {ls : Array Slot} (hf : f_readMove_0 x1 x2 I A = some o) (hM : mH D cy ci h A0 s H locs I A) (hl : lv_has ls 5 [(0, .ref (h 0)), (1, .int x1), (2, .int x2)]) : W p l e ({ frames := 8, cells := 0, slots := 0, locals := 210 } : Room) s m args below meth c H locs 0 0 Q (F0 m 0 ls []) := by
  obtain ⟨hx, hb, hml, hown, hts⟩ := id X
  unfold f_readMove_0 at hf
  refine lv_aload_n hx hb dX12_readMove_0 rfl (lv_at hl 0 rfl) ?_
  refine m_get (v := .int (I 37)) X hw_readMove hM 37 (by decide) fl_readMove_37 rfl dX12_readMove_1 ?_
  refine lv_istore_n (lv' := [(3, .int (I 37)), (0, .ref (h 0)), (1, .int x1), (2, .int x2)]) hx hb dX12_readMove_4 rfl hl (by decide) rfl (fun ls hl => ?_)
  refine lv_aload_n hx hb dX12_readMove_5 rfl (lv_at hl 1 rfl) ?_
  obtain ⟨o1, ho, hf⟩ := m_clE hf
  refine m_callVi X hM (c_look ho) gX12_readMove_X12_look rfl ⟨rfl, rfl⟩ hd_look ⟨Nat.le_of_ble_eq_true rfl, Nat.le_of_ble_eq_true rfl⟩ rfl hl.1 rfl (Nat.le_of_ble_eq_true rfl) dX12_readMove_6 (fun H locs hM => ?_)
  clear ho
  obtain ⟨o2, ho, hf⟩ := m_clE hf
  refine m_callSi X hM (c_isLetter ho) gX12_readMove_X12_isLetter rfl ⟨rfl, rfl⟩ hd_isLetter ⟨Nat.le_of_ble_eq_true rfl, Nat.le_of_ble_eq_true rfl⟩ rfl hl.1 rfl (Nat.le_of_ble_eq_true rfl) dX12_readMove_9 (fun H locs hM => ?_)
  clear ho
  refine lv_if_ne (tgt := 25) hx hb dX12_readMove_12 (by decide) (fun cc1 => ?_) (fun cc1 => ?_)
  · replace hf := m_ifF hf cc1
    exact w_readMove_25 X hret _ _ _ _ _ _ _ _ _ hf hM (lv_sub hl [1, 2, 3, 0] rfl)
  · replace hf := m_ifT hf cc1
    refine lv_iconst (v := (1 : Int32)) hx hb dX12_readMove_15 (by decide) ?_
    refine lv_aload_n hx hb dX12_readMove_16 rfl (lv_at hl 1 rfl) ?_
    refine m_get (v := .int (o2.2.1 37)) X hw_readMove hM 37 (by decide) fl_readMove_37 rfl dX12_readMove_17 ?_
    obtain ⟨o3, ho, hf⟩ := m_clE hf
    refine m_callSi X hM (c_fault ho) gX12_readMove_X12_fault rfl ⟨rfl, rfl⟩ hd_fault ⟨Nat.le_of_ble_eq_true rfl, Nat.le_of_ble_eq_true rfl⟩ rfl hl.1 rfl (Nat.le_of_ble_eq_true rfl) dX12_readMove_20 (fun H locs hM => ?_)
    clear ho
    refine lv_ineg hx hb dX12_readMove_23 ?_
    obtain ⟨v4, ev, hf⟩ := m_bndE hf
    refine m_top ev ?_
    clear ev
    cases hf
    exact hret H locs _ ls hM rfl dX12_readMove_24
noncomputable def f_readMove (x1 : Int32) (x2 : Int32) (I : Nat → Int32) (A : Nat → Nat → Int32) : Option (Int32 × MS) := f_readMove_0 x1 x2 I A
theorem c_readMove {l : Launch} {D : va_G} {cy ci : ClassId} {h : Nat → Nat} {x1 : Int32} {x2 : Int32} {I : Nat → Int32} {A : Nat → Nat → Int32} {o : Int32 × MS} (hf : f_readMove x1 x2 I A = some o) : mMi l yX12_readMove wsX12_readMove ({ frames := 8, cells := 0, slots := 0, locals := 210 } : Room) [.ref (h 0), .int x1, .int x2] D cy ci h I A o :=
  m_entryI (cc := cX12_readMove) (maxL := 5) (by decide) rfl rfl (Nat.le_of_ble_eq_true rfl) (fun p e s m args below meth c A0 Q H locs ls X hret hM hl => w_readMove_0 X hret hf hM (lv_sub hl [0, 1, 2] rfl))
theorem hw_readLine : ∀ w ∈ wsX120, w ∈ wsX12_readLine := by decide +kernel
theorem fl_readLine_37 : Cond.fieldLink RX12 267 "MoveTextsModel" "at" "I" ∈ wsX12_readLine := by decide +kernel
theorem hd_readLine : yX12_readLine.cls = RX12 ∧ yX12_readLine.cls ≠ "java/lang/invoke/MethodHandle" ∧ yX12_readLine.cls ≠ "java/lang/invoke/VarHandle" ∧ (parseMethodDescriptor yX12_readLine.desc).map (fun d => d.parameters.length) = some 3 := by decide +kernel
noncomputable def f_readLine_224 (rec : Int32 → Int32 → Int32 → (Nat → Int32) → (Nat → Nat → Int32) → Option (Int32 × MS)) (self3 : Int32 → Int32 → Int32 → Int32 → (Nat → Int32) → (Nat → Nat → Int32) → Option (Int32 × MS)) (x1 : Int32) (x2 : Int32) (x3 : Int32) (x4 : Int32) (x5 : Int32) (I : Nat → Int32) (A : Nat → Nat → Int32) : Option (Int32 × MS) :=
  m_if (x5 ≤ 0) (
  self3 x1 x2 x3 x4 I A
  ) (
  some (x5, (I, A))
  )

set_option maxRecDepth 100000 in
set_option maxHeartbeats 4000000 in
theorem w_readLine_224 {p : Program} {l : Launch} {e : Env} {s : State} {m : MethodId} {args : Array Value} {below : List Frame} {meth : Method} {c : Code} {Q : State → Prop} {D : va_G} {cy ci : ClassId} {h : Nat → Nat} {A0 : Nat → Prop} {o : Int32 × MS} {R Rr : Room} (hR0 : 9 ≤ R.frames ∧ 234 ≤ R.locals) (hR1 : Rr.cells = 0 ∧ Rr.slots = 0) (hR2 : Rr.frames + 1 ≤ R.frames ∧ 8 + (8 + 11) + Rr.locals ≤ R.locals) {rec : Int32 → Int32 → Int32 → (Nat → Int32) → (Nat → Nat → Int32) → Option (Int32 × MS)} (hrec : ∀ (x1 : Int32) (x2 : Int32) (x3 : Int32) (I : Nat → Int32) (A : Nat → Nat → Int32) (o9 : Int32 × MS), rec x1 x2 x3 I A = some o9 → mMi l yX12_readLine wsX12_readLine Rr [.ref (h 0), .int x1, .int x2, .int x3] D cy ci h I A o9) (X : CallFix p m c cX12_readLine 8 s args wsX12_readLine RX12) (hret : mRi p l e R s m args below meth c Q cX12_readLine D cy ci h A0 .int o) {self3 : Int32 → Int32 → Int32 → Int32 → (Nat → Int32) → (Nat → Nat → Int32) → Option (Int32 × MS)} (hself3 : ∀ (x1 : Int32) (x2 : Int32) (x3 : Int32) (x4 : Int32) (I : Nat → Int32) (A : Nat → Nat → Int32) (H : Heap) (locs : List Loc) (ls : Array Slot), self3 x1 x2 x3 x4 I A = some o → mH D cy ci h A0 s H locs I A → lv_has ls 8 [(0, .ref (h 0)), (1, .int x1), (2, .int x2), (3, .int x3), (4, .int x4)] → W p l e R s m args below meth c H locs 0 0 Q (F0 m 3 ls [])) {x1 : Int32} {x2 : Int32} {x3 : Int32} {x4 : Int32} {x5 : Int32} {I : Nat → Int32} {A : Nat → Nat → Int32} {H : Heap} {locs : List Loc} {ls : Array Slot} (hf : f_readLine_224 rec self3 x1 x2 x3 x4 x5 I A = some o) (hM : mH D cy ci h A0 s H locs I A) (hl : lv_has ls 8 [(0, .ref (h 0)), (1, .int x1), (2, .int x2), (3, .int x3), (4, .int x4), (5, .int x5)]) : W p l e R s m args below meth c H locs 0 0 Q (F0 m 224 ls []) := by
  obtain ⟨hx, hb, hml, hown, hts⟩ := id X
  unfold f_readLine_224 at hf
  refine lv_iload hx hb dX12_readLine_224 (lv_at hl 5 rfl) ?_
  refine lv_if_le (tgt := 232) hx hb dX12_readLine_226 (by decide) (fun cc1 => ?_) (fun cc1 => ?_)
  · replace hf := m_ifT hf cc1
    refine lv_goto (tgt := 3) hx hb dX12_readLine_232 (by decide) ?_
    exact hself3 _ _ _ _ _ _ _ _ _ hf hM (lv_sub hl [0, 1, 2, 3, 4] rfl)
  · replace hf := m_ifF hf cc1
    refine lv_iload hx hb dX12_readLine_229 (lv_at hl 5 rfl) ?_
    cases hf
    exact hret H locs _ ls hM rfl dX12_readLine_231
noncomputable def f_readLine_219 (rec : Int32 → Int32 → Int32 → (Nat → Int32) → (Nat → Nat → Int32) → Option (Int32 × MS)) (self3 : Int32 → Int32 → Int32 → Int32 → (Nat → Int32) → (Nat → Nat → Int32) → Option (Int32 × MS)) (self113 : Int32 → Int32 → Int32 → Int32 → Int32 → Int32 → (Nat → Int32) → (Nat → Nat → Int32) → Option (Int32 × MS)) (x1 : Int32) (x2 : Int32) (x3 : Int32) (x4 : Int32) (x7 : Int32) (t0 : Int32) (I : Nat → Int32) (A : Nat → Nat → Int32) : Option (Int32 × MS) :=
  self113 x1 x2 x3 x4 t0 x7 I A

set_option maxRecDepth 100000 in
set_option maxHeartbeats 4000000 in
theorem w_readLine_219 {p : Program} {l : Launch} {e : Env} {s : State} {m : MethodId} {args : Array Value} {below : List Frame} {meth : Method} {c : Code} {Q : State → Prop} {D : va_G} {cy ci : ClassId} {h : Nat → Nat} {A0 : Nat → Prop} {o : Int32 × MS} {R Rr : Room} (hR0 : 9 ≤ R.frames ∧ 234 ≤ R.locals) (hR1 : Rr.cells = 0 ∧ Rr.slots = 0) (hR2 : Rr.frames + 1 ≤ R.frames ∧ 8 + (8 + 11) + Rr.locals ≤ R.locals) {rec : Int32 → Int32 → Int32 → (Nat → Int32) → (Nat → Nat → Int32) → Option (Int32 × MS)} (hrec : ∀ (x1 : Int32) (x2 : Int32) (x3 : Int32) (I : Nat → Int32) (A : Nat → Nat → Int32) (o9 : Int32 × MS), rec x1 x2 x3 I A = some o9 → mMi l yX12_readLine wsX12_readLine Rr [.ref (h 0), .int x1, .int x2, .int x3] D cy ci h I A o9) (X : CallFix p m c cX12_readLine 8 s args wsX12_readLine RX12) (hret : mRi p l e R s m args below meth c Q cX12_readLine D cy ci h A0 .int o) {self3 : Int32 → Int32 → Int32 → Int32 → (Nat → Int32) → (Nat → Nat → Int32) → Option (Int32 × MS)} (hself3 : ∀ (x1 : Int32) (x2 : Int32) (x3 : Int32) (x4 : Int32) (I : Nat → Int32) (A : Nat → Nat → Int32) (H : Heap) (locs : List Loc) (ls : Array Slot), self3 x1 x2 x3 x4 I A = some o → mH D cy ci h A0 s H locs I A → lv_has ls 8 [(0, .ref (h 0)), (1, .int x1), (2, .int x2), (3, .int x3), (4, .int x4)] → W p l e R s m args below meth c H locs 0 0 Q (F0 m 3 ls [])) {self113 : Int32 → Int32 → Int32 → Int32 → Int32 → Int32 → (Nat → Int32) → (Nat → Nat → Int32) → Option (Int32 × MS)} (hself113 : ∀ (x1 : Int32) (x2 : Int32) (x3 : Int32) (x4 : Int32) (x5 : Int32) (x7 : Int32) (I : Nat → Int32) (A : Nat → Nat → Int32) (H : Heap) (locs : List Loc) (ls : Array Slot), self113 x1 x2 x3 x4 x5 x7 I A = some o → mH D cy ci h A0 s H locs I A → lv_has ls 8 [(0, .ref (h 0)), (1, .int x1), (2, .int x2), (3, .int x3), (4, .int x4), (5, .int x5), (7, .int x7)] → W p l e R s m args below meth c H locs 0 0 Q (F0 m 113 ls [])) {x1 : Int32} {x2 : Int32} {x3 : Int32} {x4 : Int32} {x7 : Int32} {t0 : Int32} {I : Nat → Int32} {A : Nat → Nat → Int32} {H : Heap} {locs : List Loc} {ls : Array Slot} (hf : f_readLine_219 rec self3 self113 x1 x2 x3 x4 x7 t0 I A = some o) (hM : mH D cy ci h A0 s H locs I A) (hl : lv_has ls 8 [(0, .ref (h 0)), (1, .int x1), (2, .int x2), (3, .int x3), (4, .int x4), (7, .int x7)]) : W p l e R s m args below meth c H locs 0 0 Q (F0 m 219 ls [.int t0]) := by
  obtain ⟨hx, hb, hml, hown, hts⟩ := id X
  unfold f_readLine_219 at hf
  refine lv_istore (lv' := [(5, .int t0), (0, .ref (h 0)), (1, .int x1), (2, .int x2), (3, .int x3), (4, .int x4), (7, .int x7)]) hx hb dX12_readLine_219 hl (by decide) rfl (fun ls hl => ?_)
  refine lv_goto (tgt := 113) hx hb dX12_readLine_221 (by decide) ?_
  exact hself113 _ _ _ _ _ _ _ _ _ _ _ hf hM (lv_sub hl [1, 2, 3, 4, 5, 0, 6] rfl)
noncomputable def f_readLine_199 (rec : Int32 → Int32 → Int32 → (Nat → Int32) → (Nat → Nat → Int32) → Option (Int32 × MS)) (self3 : Int32 → Int32 → Int32 → Int32 → (Nat → Int32) → (Nat → Nat → Int32) → Option (Int32 × MS)) (self113 : Int32 → Int32 → Int32 → Int32 → Int32 → Int32 → (Nat → Int32) → (Nat → Nat → Int32) → Option (Int32 × MS)) (x1 : Int32) (x2 : Int32) (x3 : Int32) (x4 : Int32) (x5 : Int32) (x7 : Int32) (t0 : Int32) (I : Nat → Int32) (A : Nat → Nat → Int32) : Option (Int32 × MS) :=
  m_bnd (upd I 37 t0) (fun I1 =>
  m_if (x5 ≤ 0) (
  m_cl (f_readRemarks x1 x4 I1 A) (fun r2 Ic2 Ac2 =>
  f_readLine_219 rec self3 self113 x1 x2 x3 x4 x7 r2 Ic2 Ac2)
  ) (
  f_readLine_219 rec self3 self113 x1 x2 x3 x4 x7 x5 I1 A
  ))

set_option maxRecDepth 100000 in
set_option maxHeartbeats 4000000 in
theorem w_readLine_199 {p : Program} {l : Launch} {e : Env} {s : State} {m : MethodId} {args : Array Value} {below : List Frame} {meth : Method} {c : Code} {Q : State → Prop} {D : va_G} {cy ci : ClassId} {h : Nat → Nat} {A0 : Nat → Prop} {o : Int32 × MS} {R Rr : Room} (hR0 : 9 ≤ R.frames ∧ 234 ≤ R.locals) (hR1 : Rr.cells = 0 ∧ Rr.slots = 0) (hR2 : Rr.frames + 1 ≤ R.frames ∧ 8 + (8 + 11) + Rr.locals ≤ R.locals) {rec : Int32 → Int32 → Int32 → (Nat → Int32) → (Nat → Nat → Int32) → Option (Int32 × MS)} (hrec : ∀ (x1 : Int32) (x2 : Int32) (x3 : Int32) (I : Nat → Int32) (A : Nat → Nat → Int32) (o9 : Int32 × MS), rec x1 x2 x3 I A = some o9 → mMi l yX12_readLine wsX12_readLine Rr [.ref (h 0), .int x1, .int x2, .int x3] D cy ci h I A o9) (X : CallFix p m c cX12_readLine 8 s args wsX12_readLine RX12) (hret : mRi p l e R s m args below meth c Q cX12_readLine D cy ci h A0 .int o) {self3 : Int32 → Int32 → Int32 → Int32 → (Nat → Int32) → (Nat → Nat → Int32) → Option (Int32 × MS)} (hself3 : ∀ (x1 : Int32) (x2 : Int32) (x3 : Int32) (x4 : Int32) (I : Nat → Int32) (A : Nat → Nat → Int32) (H : Heap) (locs : List Loc) (ls : Array Slot), self3 x1 x2 x3 x4 I A = some o → mH D cy ci h A0 s H locs I A → lv_has ls 8 [(0, .ref (h 0)), (1, .int x1), (2, .int x2), (3, .int x3), (4, .int x4)] → W p l e R s m args below meth c H locs 0 0 Q (F0 m 3 ls [])) {self113 : Int32 → Int32 → Int32 → Int32 → Int32 → Int32 → (Nat → Int32) → (Nat → Nat → Int32) → Option (Int32 × MS)} (hself113 : ∀ (x1 : Int32) (x2 : Int32) (x3 : Int32) (x4 : Int32) (x5 : Int32) (x7 : Int32) (I : Nat → Int32) (A : Nat → Nat → Int32) (H : Heap) (locs : List Loc) (ls : Array Slot), self113 x1 x2 x3 x4 x5 x7 I A = some o → mH D cy ci h A0 s H locs I A → lv_has ls 8 [(0, .ref (h 0)), (1, .int x1), (2, .int x2), (3, .int x3), (4, .int x4), (5, .int x5), (7, .int x7)] → W p l e R s m args below meth c H locs 0 0 Q (F0 m 113 ls [])) {x1 : Int32} {x2 : Int32} {x3 : Int32} {x4 : Int32} {x5 : Int32} {x7 : Int32} {t0 : Int32} {I : Nat → Int32} {A : Nat → Nat → Int32} {H : Heap} {locs : List Loc} {ls : Array Slot} (hf : f_readLine_199 rec self3 self113 x1 x2 x3 x4 x5 x7 t0 I A = some o) (hM : mH D cy ci h A0 s H locs I A) (hl : lv_has ls 8 [(0, .ref (h 0)), (1, .int x1), (2, .int x2), (3, .int x3), (4, .int x4), (5, .int x5), (7, .int x7)]) : W p l e R s m args below meth c H locs 0 0 Q (F0 m 199 ls [.int t0, .ref (h 0)]) := by
  obtain ⟨hx, hb, hml, hown, hts⟩ := id X
  unfold f_readLine_199 at hf
  refine m_put X hw_readLine hM 37 (by decide) fl_readLine_37 mi_37 rfl (tyX12_ok 37 (by decide)) dX12_readLine_199 (fun H locs hM => ?_)
  obtain ⟨I1, ev, hf⟩ := m_bndE hf
  replace hM := m_hI hM ev
  clear ev
  refine lv_iload hx hb dX12_readLine_202 (lv_at hl 5 rfl) ?_
  refine lv_if_le (tgt := 212) hx hb dX12_readLine_204 (by decide) (fun cc1 => ?_) (fun cc1 => ?_)
  · replace hf := m_ifT hf cc1
    refine lv_aload_n hx hb dX12_readLine_212 rfl (lv_at hl 0 rfl) ?_
    refine lv_iload_n hx hb dX12_readLine_213 rfl (lv_at hl 1 rfl) ?_
    refine lv_iload hx hb dX12_readLine_214 (lv_at hl 4 rfl) ?_
    obtain ⟨o2, ho, hf⟩ := m_clE hf
    refine m_callVi X hM (c_readRemarks ho) gX12_readLine_X12_readRemarks rfl ⟨rfl, rfl⟩ hd_readRemarks ⟨Nat.le_trans (Nat.le_of_ble_eq_true rfl) hR0.1, Nat.le_trans (Nat.le_of_ble_eq_true rfl) hR0.2⟩ rfl hl.1 rfl (Nat.le_of_ble_eq_true rfl) dX12_readLine_216 (fun H locs hM => ?_)
    clear ho
    exact w_readLine_219 hR0 hR1 hR2 hrec X hret hself3 hself113 hf hM (lv_sub hl [0, 1, 2, 3, 4, 6] rfl)
  · replace hf := m_ifF hf cc1
    refine lv_iload hx hb dX12_readLine_207 (lv_at hl 5 rfl) ?_
    refine lv_goto (tgt := 219) hx hb dX12_readLine_209 (by decide) ?_
    exact w_readLine_219 hR0 hR1 hR2 hrec X hret hself3 hself113 hf hM (lv_sub hl [0, 1, 2, 3, 4, 6] rfl)
noncomputable def f_readLine_178 (rec : Int32 → Int32 → Int32 → (Nat → Int32) → (Nat → Nat → Int32) → Option (Int32 × MS)) (self3 : Int32 → Int32 → Int32 → Int32 → (Nat → Int32) → (Nat → Nat → Int32) → Option (Int32 × MS)) (self113 : Int32 → Int32 → Int32 → Int32 → Int32 → Int32 → (Nat → Int32) → (Nat → Nat → Int32) → Option (Int32 × MS)) (x1 : Int32) (x2 : Int32) (x3 : Int32) (x4 : Int32) (x7 : Int32) (t0 : Int32) (I : Nat → Int32) (A : Nat → Nat → Int32) : Option (Int32 × MS) :=
  m_if (t0 ≤ 0) (
  m_bnd ((I 37) + (1 : Int32)) (fun v1 =>
  f_readLine_199 rec self3 self113 x1 x2 x3 x4 t0 x7 v1 I A)
  ) (
  f_readLine_199 rec self3 self113 x1 x2 x3 x4 t0 x7 (I 37) I A
  )

set_option maxRecDepth 100000 in
set_option maxHeartbeats 4000000 in
theorem w_readLine_178 {p : Program} {l : Launch} {e : Env} {s : State} {m : MethodId} {args : Array Value} {below : List Frame} {meth : Method} {c : Code} {Q : State → Prop} {D : va_G} {cy ci : ClassId} {h : Nat → Nat} {A0 : Nat → Prop} {o : Int32 × MS} {R Rr : Room} (hR0 : 9 ≤ R.frames ∧ 234 ≤ R.locals) (hR1 : Rr.cells = 0 ∧ Rr.slots = 0) (hR2 : Rr.frames + 1 ≤ R.frames ∧ 8 + (8 + 11) + Rr.locals ≤ R.locals) {rec : Int32 → Int32 → Int32 → (Nat → Int32) → (Nat → Nat → Int32) → Option (Int32 × MS)} (hrec : ∀ (x1 : Int32) (x2 : Int32) (x3 : Int32) (I : Nat → Int32) (A : Nat → Nat → Int32) (o9 : Int32 × MS), rec x1 x2 x3 I A = some o9 → mMi l yX12_readLine wsX12_readLine Rr [.ref (h 0), .int x1, .int x2, .int x3] D cy ci h I A o9) (X : CallFix p m c cX12_readLine 8 s args wsX12_readLine RX12) (hret : mRi p l e R s m args below meth c Q cX12_readLine D cy ci h A0 .int o) {self3 : Int32 → Int32 → Int32 → Int32 → (Nat → Int32) → (Nat → Nat → Int32) → Option (Int32 × MS)} (hself3 : ∀ (x1 : Int32) (x2 : Int32) (x3 : Int32) (x4 : Int32) (I : Nat → Int32) (A : Nat → Nat → Int32) (H : Heap) (locs : List Loc) (ls : Array Slot), self3 x1 x2 x3 x4 I A = some o → mH D cy ci h A0 s H locs I A → lv_has ls 8 [(0, .ref (h 0)), (1, .int x1), (2, .int x2), (3, .int x3), (4, .int x4)] → W p l e R s m args below meth c H locs 0 0 Q (F0 m 3 ls [])) {self113 : Int32 → Int32 → Int32 → Int32 → Int32 → Int32 → (Nat → Int32) → (Nat → Nat → Int32) → Option (Int32 × MS)} (hself113 : ∀ (x1 : Int32) (x2 : Int32) (x3 : Int32) (x4 : Int32) (x5 : Int32) (x7 : Int32) (I : Nat → Int32) (A : Nat → Nat → Int32) (H : Heap) (locs : List Loc) (ls : Array Slot), self113 x1 x2 x3 x4 x5 x7 I A = some o → mH D cy ci h A0 s H locs I A → lv_has ls 8 [(0, .ref (h 0)), (1, .int x1), (2, .int x2), (3, .int x3), (4, .int x4), (5, .int x5), (7, .int x7)] → W p l e R s m args below meth c H locs 0 0 Q (F0 m 113 ls [])) {x1 : Int32} {x2 : Int32} {x3 : Int32} {x4 : Int32} {x7 : Int32} {t0 : Int32} {I : Nat → Int32} {A : Nat → Nat → Int32} {H : Heap} {locs : List Loc} {ls : Array Slot} (hf : f_readLine_178 rec self3 self113 x1 x2 x3 x4 x7 t0 I A = some o) (hM : mH D cy ci h A0 s H locs I A) (hl : lv_has ls 8 [(0, .ref (h 0)), (1, .int x1), (2, .int x2), (3, .int x3), (4, .int x4), (7, .int x7)]) : W p l e R s m args below meth c H locs 0 0 Q (F0 m 178 ls [.int t0]) := by
  obtain ⟨hx, hb, hml, hown, hts⟩ := id X
  unfold f_readLine_178 at hf
  refine lv_istore (lv' := [(5, .int t0), (0, .ref (h 0)), (1, .int x1), (2, .int x2), (3, .int x3), (4, .int x4), (7, .int x7)]) hx hb dX12_readLine_178 hl (by decide) rfl (fun ls hl => ?_)
  refine lv_aload_n hx hb dX12_readLine_180 rfl (lv_at hl 1 rfl) ?_
  refine lv_iload hx hb dX12_readLine_181 (lv_at hl 0 rfl) ?_
  refine lv_if_le (tgt := 193) hx hb dX12_readLine_183 (by decide) (fun cc1 => ?_) (fun cc1 => ?_)
  · replace hf := m_ifT hf cc1
    refine lv_aload_n hx hb dX12_readLine_193 rfl (lv_at hl 1 rfl) ?_
    refine m_get (v := .int (I 37)) X hw_readLine hM 37 (by decide) fl_readLine_37 rfl dX12_readLine_194 ?_
    refine lv_iconst (v := (1 : Int32)) hx hb dX12_readLine_197 (by decide) ?_
    refine lv_iadd hx hb dX12_readLine_198 ?_
    obtain ⟨v1, ev, hf⟩ := m_bndE hf
    refine m_top ev ?_
    clear ev
    exact w_readLine_199 hR0 hR1 hR2 hrec X hret hself3 hself113 hf hM (lv_sub hl [1, 2, 3, 4, 5, 0, 6] rfl)
  · replace hf := m_ifF hf cc1
    refine lv_aload_n hx hb dX12_readLine_186 rfl (lv_at hl 1 rfl) ?_
    refine m_get (v := .int (I 37)) X hw_readLine hM 37 (by decide) fl_readLine_37 rfl dX12_readLine_187 ?_
    refine lv_goto (tgt := 199) hx hb dX12_readLine_190 (by decide) ?_
    exact w_readLine_199 hR0 hR1 hR2 hrec X hret hself3 hself113 hf hM (lv_sub hl [1, 2, 3, 4, 5, 0, 6] rfl)
noncomputable def f_readLine_146 (rec : Int32 → Int32 → Int32 → (Nat → Int32) → (Nat → Nat → Int32) → Option (Int32 × MS)) (self3 : Int32 → Int32 → Int32 → Int32 → (Nat → Int32) → (Nat → Nat → Int32) → Option (Int32 × MS)) (self113 : Int32 → Int32 → Int32 → Int32 → Int32 → Int32 → (Nat → Int32) → (Nat → Nat → Int32) → Option (Int32 × MS)) (x1 : Int32) (x2 : Int32) (x3 : Int32) (x4 : Int32) (x7 : Int32) (t0 : Int32) (I : Nat → Int32) (A : Nat → Nat → Int32) : Option (Int32 × MS) :=
  m_bnd ((I 37) + (1 : Int32)) (fun v1 =>
  m_bnd (upd I 37 v1) (fun I2 =>
  m_if (t0 ≤ 0) (
  m_bnd (x3 + (1 : Int32)) (fun v3 =>
  m_cl (rec x1 x7 v3 I2 A) (fun r4 Ic4 Ac4 =>
  f_readLine_178 rec self3 self113 x1 x2 x3 x4 x7 r4 Ic4 Ac4))
  ) (
  f_readLine_178 rec self3 self113 x1 x2 x3 x4 x7 t0 I2 A
  )))

set_option maxRecDepth 100000 in
set_option maxHeartbeats 4000000 in
theorem w_readLine_146 {p : Program} {l : Launch} {e : Env} {s : State} {m : MethodId} {args : Array Value} {below : List Frame} {meth : Method} {c : Code} {Q : State → Prop} {D : va_G} {cy ci : ClassId} {h : Nat → Nat} {A0 : Nat → Prop} {o : Int32 × MS} {R Rr : Room} (hR0 : 9 ≤ R.frames ∧ 234 ≤ R.locals) (hR1 : Rr.cells = 0 ∧ Rr.slots = 0) (hR2 : Rr.frames + 1 ≤ R.frames ∧ 8 + (8 + 11) + Rr.locals ≤ R.locals) {rec : Int32 → Int32 → Int32 → (Nat → Int32) → (Nat → Nat → Int32) → Option (Int32 × MS)} (hrec : ∀ (x1 : Int32) (x2 : Int32) (x3 : Int32) (I : Nat → Int32) (A : Nat → Nat → Int32) (o9 : Int32 × MS), rec x1 x2 x3 I A = some o9 → mMi l yX12_readLine wsX12_readLine Rr [.ref (h 0), .int x1, .int x2, .int x3] D cy ci h I A o9) (X : CallFix p m c cX12_readLine 8 s args wsX12_readLine RX12) (hret : mRi p l e R s m args below meth c Q cX12_readLine D cy ci h A0 .int o) {self3 : Int32 → Int32 → Int32 → Int32 → (Nat → Int32) → (Nat → Nat → Int32) → Option (Int32 × MS)} (hself3 : ∀ (x1 : Int32) (x2 : Int32) (x3 : Int32) (x4 : Int32) (I : Nat → Int32) (A : Nat → Nat → Int32) (H : Heap) (locs : List Loc) (ls : Array Slot), self3 x1 x2 x3 x4 I A = some o → mH D cy ci h A0 s H locs I A → lv_has ls 8 [(0, .ref (h 0)), (1, .int x1), (2, .int x2), (3, .int x3), (4, .int x4)] → W p l e R s m args below meth c H locs 0 0 Q (F0 m 3 ls [])) {self113 : Int32 → Int32 → Int32 → Int32 → Int32 → Int32 → (Nat → Int32) → (Nat → Nat → Int32) → Option (Int32 × MS)} (hself113 : ∀ (x1 : Int32) (x2 : Int32) (x3 : Int32) (x4 : Int32) (x5 : Int32) (x7 : Int32) (I : Nat → Int32) (A : Nat → Nat → Int32) (H : Heap) (locs : List Loc) (ls : Array Slot), self113 x1 x2 x3 x4 x5 x7 I A = some o → mH D cy ci h A0 s H locs I A → lv_has ls 8 [(0, .ref (h 0)), (1, .int x1), (2, .int x2), (3, .int x3), (4, .int x4), (5, .int x5), (7, .int x7)] → W p l e R s m args below meth c H locs 0 0 Q (F0 m 113 ls [])) {x1 : Int32} {x2 : Int32} {x3 : Int32} {x4 : Int32} {x7 : Int32} {t0 : Int32} {I : Nat → Int32} {A : Nat → Nat → Int32} {H : Heap} {locs : List Loc} {ls : Array Slot} (hf : f_readLine_146 rec self3 self113 x1 x2 x3 x4 x7 t0 I A = some o) (hM : mH D cy ci h A0 s H locs I A) (hl : lv_has ls 8 [(0, .ref (h 0)), (1, .int x1), (2, .int x2), (3, .int x3), (4, .int x4), (7, .int x7)]) : W p l e R s m args below meth c H locs 0 0 Q (F0 m 146 ls [.int t0]) := by
  obtain ⟨hx, hb, hml, hown, hts⟩ := id X
  unfold f_readLine_146 at hf
  refine lv_istore (lv' := [(5, .int t0), (0, .ref (h 0)), (1, .int x1), (2, .int x2), (3, .int x3), (4, .int x4), (7, .int x7)]) hx hb dX12_readLine_146 hl (by decide) rfl (fun ls hl => ?_)
  refine lv_aload_n hx hb dX12_readLine_148 rfl (lv_at hl 1 rfl) ?_
  refine lv_dup hx hb dX12_readLine_149 rfl ?_
  refine m_get (v := .int (I 37)) X hw_readLine hM 37 (by decide) fl_readLine_37 rfl dX12_readLine_150 ?_
  refine lv_iconst (v := (1 : Int32)) hx hb dX12_readLine_153 (by decide) ?_
  refine lv_iadd hx hb dX12_readLine_154 ?_
  obtain ⟨v1, ev, hf⟩ := m_bndE hf
  refine m_top ev ?_
  clear ev
  refine m_put X hw_readLine hM 37 (by decide) fl_readLine_37 mi_37 rfl (tyX12_ok 37 (by decide)) dX12_readLine_155 (fun H locs hM => ?_)
  obtain ⟨I2, ev, hf⟩ := m_bndE hf
  replace hM := m_hI hM ev
  clear ev
  refine lv_iload hx hb dX12_readLine_158 (lv_at hl 0 rfl) ?_
  refine lv_if_le (tgt := 168) hx hb dX12_readLine_160 (by decide) (fun cc1 => ?_) (fun cc1 => ?_)
  · replace hf := m_ifT hf cc1
    refine lv_aload_n hx hb dX12_readLine_168 rfl (lv_at hl 1 rfl) ?_
    refine lv_iload_n hx hb dX12_readLine_169 rfl (lv_at hl 2 rfl) ?_
    refine lv_iload hx hb dX12_readLine_170 (lv_at hl 6 rfl) ?_
    refine lv_iload_n hx hb dX12_readLine_172 rfl (lv_at hl 4 rfl) ?_
    refine lv_iconst (v := (1 : Int32)) hx hb dX12_readLine_173 (by decide) ?_
    refine lv_iadd hx hb dX12_readLine_174 ?_
    obtain ⟨v3, ev, hf⟩ := m_bndE hf
    refine m_top ev ?_
    clear ev
    obtain ⟨o4, ho, hf⟩ := m_clE hf
    refine m_callVi X hM (hrec _ _ _ _ _ _ ho) gX12_readLine_X12_readLine rfl hR1 hd_readLine hR2 rfl hl.1 rfl (Nat.le_of_ble_eq_true rfl) dX12_readLine_175 (fun H locs hM => ?_)
    clear ho
    exact w_readLine_178 hR0 hR1 hR2 hrec X hret hself3 hself113 hf hM (lv_sub hl [1, 2, 3, 4, 5, 6] rfl)
  · replace hf := m_ifF hf cc1
    refine lv_iload hx hb dX12_readLine_163 (lv_at hl 0 rfl) ?_
    refine lv_goto (tgt := 178) hx hb dX12_readLine_165 (by decide) ?_
    exact w_readLine_178 hR0 hR1 hR2 hrec X hret hself3 hself113 hf hM (lv_sub hl [1, 2, 3, 4, 5, 6] rfl)
noncomputable def f_readLine_113s (rec : Int32 → Int32 → Int32 → (Nat → Int32) → (Nat → Nat → Int32) → Option (Int32 × MS)) (self3 : Int32 → Int32 → Int32 → Int32 → (Nat → Int32) → (Nat → Nat → Int32) → Option (Int32 × MS)) (self113 : Int32 → Int32 → Int32 → Int32 → Int32 → Int32 → (Nat → Int32) → (Nat → Nat → Int32) → Option (Int32 × MS)) (x1 : Int32) (x2 : Int32) (x3 : Int32) (x4 : Int32) (x5 : Int32) (x7 : Int32) (I : Nat → Int32) (A : Nat → Nat → Int32) : Option (Int32 × MS) :=
  m_if (x5 = 0) (
  m_cl (f_look  I A) (fun r1 Ic1 Ac1 =>
  m_if (r1 = (40 : Int32)) (
  m_if (x3 = (6 : Int32)) (
  m_cl (f_fault (8 : Int32) (Ic1 37) Ic1 Ac1) (fun r2 Ic2 Ac2 =>
  f_readLine_146 rec self3 self113 x1 x2 x3 x4 x7 r2 Ic2 Ac2)
  ) (
  f_readLine_146 rec self3 self113 x1 x2 x3 x4 x7 (0 : Int32) Ic1 Ac1
  )
  ) (
  f_readLine_224 rec self3 x1 x2 x3 x4 x5 Ic1 Ac1
  ))
  ) (
  f_readLine_224 rec self3 x1 x2 x3 x4 x5 I A
  )

set_option maxRecDepth 100000 in
set_option maxHeartbeats 4000000 in
theorem ws_readLine_113 {p : Program} {l : Launch} {e : Env} {s : State} {m : MethodId} {args : Array Value} {below : List Frame} {meth : Method} {c : Code} {Q : State → Prop} {D : va_G} {cy ci : ClassId} {h : Nat → Nat} {A0 : Nat → Prop} {o : Int32 × MS} {R Rr : Room} (hR0 : 9 ≤ R.frames ∧ 234 ≤ R.locals) (hR1 : Rr.cells = 0 ∧ Rr.slots = 0) (hR2 : Rr.frames + 1 ≤ R.frames ∧ 8 + (8 + 11) + Rr.locals ≤ R.locals) {rec : Int32 → Int32 → Int32 → (Nat → Int32) → (Nat → Nat → Int32) → Option (Int32 × MS)} (hrec : ∀ (x1 : Int32) (x2 : Int32) (x3 : Int32) (I : Nat → Int32) (A : Nat → Nat → Int32) (o9 : Int32 × MS), rec x1 x2 x3 I A = some o9 → mMi l yX12_readLine wsX12_readLine Rr [.ref (h 0), .int x1, .int x2, .int x3] D cy ci h I A o9) (X : CallFix p m c cX12_readLine 8 s args wsX12_readLine RX12) (hret : mRi p l e R s m args below meth c Q cX12_readLine D cy ci h A0 .int o) {self3 : Int32 → Int32 → Int32 → Int32 → (Nat → Int32) → (Nat → Nat → Int32) → Option (Int32 × MS)} (hself3 : ∀ (x1 : Int32) (x2 : Int32) (x3 : Int32) (x4 : Int32) (I : Nat → Int32) (A : Nat → Nat → Int32) (H : Heap) (locs : List Loc) (ls : Array Slot), self3 x1 x2 x3 x4 I A = some o → mH D cy ci h A0 s H locs I A → lv_has ls 8 [(0, .ref (h 0)), (1, .int x1), (2, .int x2), (3, .int x3), (4, .int x4)] → W p l e R s m args below meth c H locs 0 0 Q (F0 m 3 ls [])) {self113 : Int32 → Int32 → Int32 → Int32 → Int32 → Int32 → (Nat → Int32) → (Nat → Nat → Int32) → Option (Int32 × MS)} (hself113 : ∀ (x1 : Int32) (x2 : Int32) (x3 : Int32) (x4 : Int32) (x5 : Int32) (x7 : Int32) (I : Nat → Int32) (A : Nat → Nat → Int32) (H : Heap) (locs : List Loc) (ls : Array Slot), self113 x1 x2 x3 x4 x5 x7 I A = some o → mH D cy ci h A0 s H locs I A → lv_has ls 8 [(0, .ref (h 0)), (1, .int x1), (2, .int x2), (3, .int x3), (4, .int x4), (5, .int x5), (7, .int x7)] → W p l e R s m args below meth c H locs 0 0 Q (F0 m 113 ls [])) {x1 : Int32} {x2 : Int32} {x3 : Int32} {x4 : Int32} {x5 : Int32} {x7 : Int32} {I : Nat → Int32} {A : Nat → Nat → Int32} {H : Heap} {locs : List Loc} {ls : Array Slot} (hf : f_readLine_113s rec self3 self113 x1 x2 x3 x4 x5 x7 I A = some o) (hM : mH D cy ci h A0 s H locs I A) (hl : lv_has ls 8 [(0, .ref (h 0)), (1, .int x1), (2, .int x2), (3, .int x3), (4, .int x4), (5, .int x5), (7, .int x7)]) : W p l e R s m args below meth c H locs 0 0 Q (F0 m 113 ls []) := by
  obtain ⟨hx, hb, hml, hown, hts⟩ := id X
  unfold f_readLine_113s at hf
  refine lv_iload hx hb dX12_readLine_113 (lv_at hl 5 rfl) ?_
  refine lv_if_ne (tgt := 224) hx hb dX12_readLine_115 (by decide) (fun cc1 => ?_) (fun cc1 => ?_)
  · replace hf := m_ifF hf cc1
    exact w_readLine_224 hR0 hR1 hR2 hrec X hret hself3 hf hM (lv_sub hl [0, 1, 2, 3, 4, 5] rfl)
  · replace hf := m_ifT hf cc1
    refine lv_aload_n hx hb dX12_readLine_118 rfl (lv_at hl 0 rfl) ?_
    obtain ⟨o1, ho, hf⟩ := m_clE hf
    refine m_callVi X hM (c_look ho) gX12_readLine_X12_look rfl ⟨rfl, rfl⟩ hd_look ⟨Nat.le_trans (Nat.le_of_ble_eq_true rfl) hR0.1, Nat.le_trans (Nat.le_of_ble_eq_true rfl) hR0.2⟩ rfl hl.1 rfl (Nat.le_of_ble_eq_true rfl) dX12_readLine_119 (fun H locs hM => ?_)
    clear ho
    refine lv_bipush (v := (40 : Int32)) hx hb dX12_readLine_122 (by decide) ?_
    refine lv_icmp_ne (tgt := 224) hx hb dX12_readLine_124 (by decide) (fun cc1 => ?_) (fun cc1 => ?_)
    · replace hf := m_ifF hf cc1
      exact w_readLine_224 hR0 hR1 hR2 hrec X hret hself3 hf hM (lv_sub hl [0, 1, 2, 3, 4, 5] rfl)
    · replace hf := m_ifT hf cc1
      refine lv_iload_n hx hb dX12_readLine_127 rfl (lv_at hl 3 rfl) ?_
      refine lv_bipush (v := (6 : Int32)) hx hb dX12_readLine_128 (by decide) ?_
      refine lv_icmp_ne (tgt := 145) hx hb dX12_readLine_130 (by decide) (fun cc1 => ?_) (fun cc1 => ?_)
      · replace hf := m_ifF hf cc1
        refine lv_iconst (v := (0 : Int32)) hx hb dX12_readLine_145 (by decide) ?_
        exact w_readLine_146 hR0 hR1 hR2 hrec X hret hself3 hself113 hf hM (lv_sub hl [0, 1, 2, 3, 4, 6] rfl)
      · replace hf := m_ifT hf cc1
        refine lv_bipush (v := (8 : Int32)) hx hb dX12_readLine_133 (by decide) ?_
        refine lv_aload_n hx hb dX12_readLine_135 rfl (lv_at hl 0 rfl) ?_
        refine m_get (v := .int (o1.2.1 37)) X hw_readLine hM 37 (by decide) fl_readLine_37 rfl dX12_readLine_136 ?_
        obtain ⟨o2, ho, hf⟩ := m_clE hf
        refine m_callSi X hM (c_fault ho) gX12_readLine_X12_fault rfl ⟨rfl, rfl⟩ hd_fault ⟨Nat.le_trans (Nat.le_of_ble_eq_true rfl) hR0.1, Nat.le_trans (Nat.le_of_ble_eq_true rfl) hR0.2⟩ rfl hl.1 rfl (Nat.le_of_ble_eq_true rfl) dX12_readLine_139 (fun H locs hM => ?_)
        clear ho
        refine lv_goto (tgt := 146) hx hb dX12_readLine_142 (by decide) ?_
        exact w_readLine_146 hR0 hR1 hR2 hrec X hret hself3 hself113 hf hM (lv_sub hl [0, 1, 2, 3, 4, 6] rfl)
noncomputable def f_readLine_113 (rec : Int32 → Int32 → Int32 → (Nat → Int32) → (Nat → Nat → Int32) → Option (Int32 × MS)) (self3 : Int32 → Int32 → Int32 → Int32 → (Nat → Int32) → (Nat → Nat → Int32) → Option (Int32 × MS)) : Nat → Int32 → Int32 → Int32 → Int32 → Int32 → Int32 → (Nat → Int32) → (Nat → Nat → Int32) → Option (Int32 × MS)
  | 0 => fun _ _ _ _ _ _ _ _ => none
  | n + 1 => f_readLine_113s rec self3 (f_readLine_113 rec self3 n)
theorem w_readLine_113 {p : Program} {l : Launch} {e : Env} {s : State} {m : MethodId} {args : Array Value} {below : List Frame} {meth : Method} {c : Code} {Q : State → Prop} {D : va_G} {cy ci : ClassId} {h : Nat → Nat} {A0 : Nat → Prop} {o : Int32 × MS} {R Rr : Room} (hR0 : 9 ≤ R.frames ∧ 234 ≤ R.locals) (hR1 : Rr.cells = 0 ∧ Rr.slots = 0) (hR2 : Rr.frames + 1 ≤ R.frames ∧ 8 + (8 + 11) + Rr.locals ≤ R.locals) {rec : Int32 → Int32 → Int32 → (Nat → Int32) → (Nat → Nat → Int32) → Option (Int32 × MS)} (hrec : ∀ (x1 : Int32) (x2 : Int32) (x3 : Int32) (I : Nat → Int32) (A : Nat → Nat → Int32) (o9 : Int32 × MS), rec x1 x2 x3 I A = some o9 → mMi l yX12_readLine wsX12_readLine Rr [.ref (h 0), .int x1, .int x2, .int x3] D cy ci h I A o9) (X : CallFix p m c cX12_readLine 8 s args wsX12_readLine RX12) (hret : mRi p l e R s m args below meth c Q cX12_readLine D cy ci h A0 .int o) {self3 : Int32 → Int32 → Int32 → Int32 → (Nat → Int32) → (Nat → Nat → Int32) → Option (Int32 × MS)} (hself3 : ∀ (x1 : Int32) (x2 : Int32) (x3 : Int32) (x4 : Int32) (I : Nat → Int32) (A : Nat → Nat → Int32) (H : Heap) (locs : List Loc) (ls : Array Slot), self3 x1 x2 x3 x4 I A = some o → mH D cy ci h A0 s H locs I A → lv_has ls 8 [(0, .ref (h 0)), (1, .int x1), (2, .int x2), (3, .int x3), (4, .int x4)] → W p l e R s m args below meth c H locs 0 0 Q (F0 m 3 ls [])) (n : Nat) : ∀ (x1 : Int32) (x2 : Int32) (x3 : Int32) (x4 : Int32) (x5 : Int32) (x7 : Int32) (I : Nat → Int32) (A : Nat → Nat → Int32) (H : Heap) (locs : List Loc) (ls : Array Slot), f_readLine_113 rec self3 n x1 x2 x3 x4 x5 x7 I A = some o → mH D cy ci h A0 s H locs I A → lv_has ls 8 [(0, .ref (h 0)), (1, .int x1), (2, .int x2), (3, .int x3), (4, .int x4), (5, .int x5), (7, .int x7)] → W p l e R s m args below meth c H locs 0 0 Q (F0 m 113 ls []) := by
  induction n with
  | zero => intro x1 x2 x3 x4 x5 x7 I A H locs ls hf; cases hf
  | succ n ih => intro x1 x2 x3 x4 x5 x7 I A H locs ls hf hM hl; exact ws_readLine_113 hR0 hR1 hR2 hrec X hret hself3 (self113 := f_readLine_113 rec self3 n) ih hf hM hl
noncomputable def f_readLine_111 (rec : Int32 → Int32 → Int32 → (Nat → Int32) → (Nat → Nat → Int32) → Option (Int32 × MS)) (self3 : Int32 → Int32 → Int32 → Int32 → (Nat → Int32) → (Nat → Nat → Int32) → Option (Int32 × MS)) (x1 : Int32) (x2 : Int32) (x3 : Int32) (x4 : Int32) (x7 : Int32) (t0 : Int32) (I : Nat → Int32) (A : Nat → Nat → Int32) : Option (Int32 × MS) :=
  f_readLine_113 rec self3 mFuel x1 x2 x3 x4 t0 x7 I A

set_option maxRecDepth 100000 in
set_option maxHeartbeats 4000000 in
theorem w_readLine_111 {p : Program} {l : Launch} {e : Env} {s : State} {m : MethodId} {args : Array Value} {below : List Frame} {meth : Method} {c : Code} {Q : State → Prop} {D : va_G} {cy ci : ClassId} {h : Nat → Nat} {A0 : Nat → Prop} {o : Int32 × MS} {R Rr : Room} (hR0 : 9 ≤ R.frames ∧ 234 ≤ R.locals) (hR1 : Rr.cells = 0 ∧ Rr.slots = 0) (hR2 : Rr.frames + 1 ≤ R.frames ∧ 8 + (8 + 11) + Rr.locals ≤ R.locals) {rec : Int32 → Int32 → Int32 → (Nat → Int32) → (Nat → Nat → Int32) → Option (Int32 × MS)} (hrec : ∀ (x1 : Int32) (x2 : Int32) (x3 : Int32) (I : Nat → Int32) (A : Nat → Nat → Int32) (o9 : Int32 × MS), rec x1 x2 x3 I A = some o9 → mMi l yX12_readLine wsX12_readLine Rr [.ref (h 0), .int x1, .int x2, .int x3] D cy ci h I A o9) (X : CallFix p m c cX12_readLine 8 s args wsX12_readLine RX12) (hret : mRi p l e R s m args below meth c Q cX12_readLine D cy ci h A0 .int o) {self3 : Int32 → Int32 → Int32 → Int32 → (Nat → Int32) → (Nat → Nat → Int32) → Option (Int32 × MS)} (hself3 : ∀ (x1 : Int32) (x2 : Int32) (x3 : Int32) (x4 : Int32) (I : Nat → Int32) (A : Nat → Nat → Int32) (H : Heap) (locs : List Loc) (ls : Array Slot), self3 x1 x2 x3 x4 I A = some o → mH D cy ci h A0 s H locs I A → lv_has ls 8 [(0, .ref (h 0)), (1, .int x1), (2, .int x2), (3, .int x3), (4, .int x4)] → W p l e R s m args below meth c H locs 0 0 Q (F0 m 3 ls [])) {x1 : Int32} {x2 : Int32} {x3 : Int32} {x4 : Int32} {x7 : Int32} {t0 : Int32} {I : Nat → Int32} {A : Nat → Nat → Int32} {H : Heap} {locs : List Loc} {ls : Array Slot} (hf : f_readLine_111 rec self3 x1 x2 x3 x4 x7 t0 I A = some o) (hM : mH D cy ci h A0 s H locs I A) (hl : lv_has ls 8 [(0, .ref (h 0)), (1, .int x1), (2, .int x2), (3, .int x3), (4, .int x4), (7, .int x7)]) : W p l e R s m args below meth c H locs 0 0 Q (F0 m 111 ls [.int t0]) := by
  obtain ⟨hx, hb, hml, hown, hts⟩ := id X
  unfold f_readLine_111 at hf
  refine lv_istore (lv' := [(5, .int t0), (0, .ref (h 0)), (1, .int x1), (2, .int x2), (3, .int x3), (4, .int x4), (7, .int x7)]) hx hb dX12_readLine_111 hl (by decide) rfl (fun ls hl => ?_)
  exact w_readLine_113 hR0 hR1 hR2 hrec X hret hself3 _ _ _ _ _ _ _ _ _ _ _ _ hf hM (lv_sub hl [1, 2, 3, 4, 5, 0, 6] rfl)
noncomputable def f_readLine_38 (rec : Int32 → Int32 → Int32 → (Nat → Int32) → (Nat → Nat → Int32) → Option (Int32 × MS)) (self3 : Int32 → Int32 → Int32 → Int32 → (Nat → Int32) → (Nat → Nat → Int32) → Option (Int32 × MS)) (x1 : Int32) (x2 : Int32) (x3 : Int32) (x4 : Int32) (I : Nat → Int32) (A : Nat → Nat → Int32) : Option (Int32 × MS) :=
  m_cl (f_place x1 x4 I A) (fun r1 Ic1 Ac1 =>
  m_cl (f_readMoveNumber  Ic1 Ac1) (fun r2 Ic2 Ac2 =>
  m_if (r2 ≤ 0) (
  m_cl (f_readMove x1 x4 Ic2 Ac2) (fun r3 Ic3 Ac3 =>
  m_if (0 ≤ r3) (
  m_cl (f_readMarks x1 r3 Ic3 Ac3) (fun r4 Ic4 Ac4 =>
  m_if (r4 ≤ 0) (
  m_cl (f_readRemarks x1 r3 Ic4 Ac4) (fun r5 Ic5 Ac5 =>
  f_readLine_111 rec self3 x1 x2 x3 r3 x4 r5 Ic5 Ac5)
  ) (
  f_readLine_111 rec self3 x1 x2 x3 r3 x4 r4 Ic4 Ac4
  ))
  ) (
  m_bnd (-r3) (fun v6 =>
  some (v6, (Ic3, Ac3)))
  ))
  ) (
  some (r2, (Ic2, Ac2))
  )))

set_option maxRecDepth 100000 in
set_option maxHeartbeats 4000000 in
theorem w_readLine_38 {p : Program} {l : Launch} {e : Env} {s : State} {m : MethodId} {args : Array Value} {below : List Frame} {meth : Method} {c : Code} {Q : State → Prop} {D : va_G} {cy ci : ClassId} {h : Nat → Nat} {A0 : Nat → Prop} {o : Int32 × MS} {R Rr : Room} (hR0 : 9 ≤ R.frames ∧ 234 ≤ R.locals) (hR1 : Rr.cells = 0 ∧ Rr.slots = 0) (hR2 : Rr.frames + 1 ≤ R.frames ∧ 8 + (8 + 11) + Rr.locals ≤ R.locals) {rec : Int32 → Int32 → Int32 → (Nat → Int32) → (Nat → Nat → Int32) → Option (Int32 × MS)} (hrec : ∀ (x1 : Int32) (x2 : Int32) (x3 : Int32) (I : Nat → Int32) (A : Nat → Nat → Int32) (o9 : Int32 × MS), rec x1 x2 x3 I A = some o9 → mMi l yX12_readLine wsX12_readLine Rr [.ref (h 0), .int x1, .int x2, .int x3] D cy ci h I A o9) (X : CallFix p m c cX12_readLine 8 s args wsX12_readLine RX12) (hret : mRi p l e R s m args below meth c Q cX12_readLine D cy ci h A0 .int o) {self3 : Int32 → Int32 → Int32 → Int32 → (Nat → Int32) → (Nat → Nat → Int32) → Option (Int32 × MS)} (hself3 : ∀ (x1 : Int32) (x2 : Int32) (x3 : Int32) (x4 : Int32) (I : Nat → Int32) (A : Nat → Nat → Int32) (H : Heap) (locs : List Loc) (ls : Array Slot), self3 x1 x2 x3 x4 I A = some o → mH D cy ci h A0 s H locs I A → lv_has ls 8 [(0, .ref (h 0)), (1, .int x1), (2, .int x2), (3, .int x3), (4, .int x4)] → W p l e R s m args below meth c H locs 0 0 Q (F0 m 3 ls [])) {x1 : Int32} {x2 : Int32} {x3 : Int32} {x4 : Int32} {I : Nat → Int32} {A : Nat → Nat → Int32} {H : Heap} {locs : List Loc} {ls : Array Slot} (hf : f_readLine_38 rec self3 x1 x2 x3 x4 I A = some o) (hM : mH D cy ci h A0 s H locs I A) (hl : lv_has ls 8 [(0, .ref (h 0)), (1, .int x1), (2, .int x2), (3, .int x3), (4, .int x4)]) : W p l e R s m args below meth c H locs 0 0 Q (F0 m 38 ls []) := by
  obtain ⟨hx, hb, hml, hown, hts⟩ := id X
  unfold f_readLine_38 at hf
  refine lv_aload_n hx hb dX12_readLine_38 rfl (lv_at hl 0 rfl) ?_
  refine lv_iload_n hx hb dX12_readLine_39 rfl (lv_at hl 1 rfl) ?_
  refine lv_iload hx hb dX12_readLine_40 (lv_at hl 4 rfl) ?_
  obtain ⟨o1, ho, hf⟩ := m_clE hf
  refine m_callVv X hM (c_place ho) gX12_readLine_X12_place rfl ⟨rfl, rfl⟩ hd_place ⟨Nat.le_trans (Nat.le_of_ble_eq_true rfl) hR0.1, Nat.le_trans (Nat.le_of_ble_eq_true rfl) hR0.2⟩ rfl hl.1 rfl (Nat.le_of_ble_eq_true rfl) dX12_readLine_42 (fun H locs hM => ?_)
  clear ho
  refine lv_aload_n hx hb dX12_readLine_45 rfl (lv_at hl 0 rfl) ?_
  obtain ⟨o2, ho, hf⟩ := m_clE hf
  refine m_callVi X hM (c_readMoveNumber ho) gX12_readLine_X12_readMoveNumber rfl ⟨rfl, rfl⟩ hd_readMoveNumber ⟨Nat.le_trans (Nat.le_of_ble_eq_true rfl) hR0.1, Nat.le_trans (Nat.le_of_ble_eq_true rfl) hR0.2⟩ rfl hl.1 rfl (Nat.le_of_ble_eq_true rfl) dX12_readLine_46 (fun H locs hM => ?_)
  clear ho
  refine lv_istore (lv' := [(5, .int o2.1), (0, .ref (h 0)), (1, .int x1), (2, .int x2), (3, .int x3), (4, .int x4)]) hx hb dX12_readLine_49 hl (by decide) rfl (fun ls hl => ?_)
  refine lv_iload hx hb dX12_readLine_51 (lv_at hl 0 rfl) ?_
  refine lv_if_le (tgt := 59) hx hb dX12_readLine_53 (by decide) (fun cc1 => ?_) (fun cc1 => ?_)
  · replace hf := m_ifT hf cc1
    refine lv_aload_n hx hb dX12_readLine_59 rfl (lv_at hl 1 rfl) ?_
    refine lv_iload_n hx hb dX12_readLine_60 rfl (lv_at hl 2 rfl) ?_
    refine lv_iload hx hb dX12_readLine_61 (lv_at hl 5 rfl) ?_
    obtain ⟨o3, ho, hf⟩ := m_clE hf
    refine m_callVi X hM (c_readMove ho) gX12_readLine_X12_readMove rfl ⟨rfl, rfl⟩ hd_readMove ⟨Nat.le_trans (Nat.le_of_ble_eq_true rfl) hR0.1, Nat.le_trans (Nat.le_of_ble_eq_true rfl) hR0.2⟩ rfl hl.1 rfl (Nat.le_of_ble_eq_true rfl) dX12_readLine_63 (fun H locs hM => ?_)
    clear ho
    refine lv_istore (lv' := [(6, .int o3.1), (5, .int o2.1), (0, .ref (h 0)), (1, .int x1), (2, .int x2), (3, .int x3), (4, .int x4)]) hx hb dX12_readLine_66 hl (by decide) rfl (fun ls hl => ?_)
    refine lv_iload hx hb dX12_readLine_68 (lv_at hl 0 rfl) ?_
    refine lv_if_ge (tgt := 77) hx hb dX12_readLine_70 (by decide) (fun cc1 => ?_) (fun cc1 => ?_)
    · replace hf := m_ifT hf cc1
      refine lv_iload hx hb dX12_readLine_77 (lv_at hl 6 rfl) ?_
      refine lv_istore (lv' := [(7, .int x4), (6, .int o3.1), (5, .int o2.1), (0, .ref (h 0)), (1, .int x1), (2, .int x2), (3, .int x3), (4, .int x4)]) hx hb dX12_readLine_79 hl (by decide) rfl (fun ls hl => ?_)
      refine lv_iload hx hb dX12_readLine_81 (lv_at hl 1 rfl) ?_
      refine lv_istore (lv' := [(4, .int o3.1), (7, .int x4), (6, .int o3.1), (5, .int o2.1), (0, .ref (h 0)), (1, .int x1), (2, .int x2), (3, .int x3)]) hx hb dX12_readLine_83 hl (by decide) rfl (fun ls hl => ?_)
      refine lv_aload_n hx hb dX12_readLine_85 rfl (lv_at hl 4 rfl) ?_
      refine lv_iload_n hx hb dX12_readLine_86 rfl (lv_at hl 5 rfl) ?_
      refine lv_iload hx hb dX12_readLine_87 (lv_at hl 0 rfl) ?_
      obtain ⟨o4, ho, hf⟩ := m_clE hf
      refine m_callVi X hM (c_readMarks ho) gX12_readLine_X12_readMarks rfl ⟨rfl, rfl⟩ hd_readMarks ⟨Nat.le_trans (Nat.le_of_ble_eq_true rfl) hR0.1, Nat.le_trans (Nat.le_of_ble_eq_true rfl) hR0.2⟩ rfl hl.1 rfl (Nat.le_of_ble_eq_true rfl) dX12_readLine_89 (fun H locs hM => ?_)
      clear ho
      refine lv_istore (lv' := [(5, .int o4.1), (4, .int o3.1), (7, .int x4), (6, .int o3.1), (0, .ref (h 0)), (1, .int x1), (2, .int x2), (3, .int x3)]) hx hb dX12_readLine_92 hl (by decide) rfl (fun ls hl => ?_)
      refine lv_iload hx hb dX12_readLine_94 (lv_at hl 0 rfl) ?_
      refine lv_if_le (tgt := 104) hx hb dX12_readLine_96 (by decide) (fun cc1 => ?_) (fun cc1 => ?_)
      · replace hf := m_ifT hf cc1
        refine lv_aload_n hx hb dX12_readLine_104 rfl (lv_at hl 4 rfl) ?_
        refine lv_iload_n hx hb dX12_readLine_105 rfl (lv_at hl 5 rfl) ?_
        refine lv_iload hx hb dX12_readLine_106 (lv_at hl 1 rfl) ?_
        obtain ⟨o5, ho, hf⟩ := m_clE hf
        refine m_callVi X hM (c_readRemarks ho) gX12_readLine_X12_readRemarks rfl ⟨rfl, rfl⟩ hd_readRemarks ⟨Nat.le_trans (Nat.le_of_ble_eq_true rfl) hR0.1, Nat.le_trans (Nat.le_of_ble_eq_true rfl) hR0.2⟩ rfl hl.1 rfl (Nat.le_of_ble_eq_true rfl) dX12_readLine_108 (fun H locs hM => ?_)
        clear ho
        exact w_readLine_111 hR0 hR1 hR2 hrec X hret hself3 hf hM (lv_sub hl [4, 5, 6, 7, 1, 2] rfl)
      · replace hf := m_ifF hf cc1
        refine lv_iload hx hb dX12_readLine_99 (lv_at hl 0 rfl) ?_
        refine lv_goto (tgt := 111) hx hb dX12_readLine_101 (by decide) ?_
        exact w_readLine_111 hR0 hR1 hR2 hrec X hret hself3 hf hM (lv_sub hl [4, 5, 6, 7, 1, 2] rfl)
    · replace hf := m_ifF hf cc1
      refine lv_iload hx hb dX12_readLine_73 (lv_at hl 0 rfl) ?_
      refine lv_ineg hx hb dX12_readLine_75 ?_
      obtain ⟨v6, ev, hf⟩ := m_bndE hf
      refine m_top ev ?_
      clear ev
      cases hf
      exact hret H locs _ ls hM rfl dX12_readLine_76
  · replace hf := m_ifF hf cc1
    refine lv_iload hx hb dX12_readLine_56 (lv_at hl 0 rfl) ?_
    cases hf
    exact hret H locs _ ls hM rfl dX12_readLine_58
noncomputable def f_readLine_36 (rec : Int32 → Int32 → Int32 → (Nat → Int32) → (Nat → Nat → Int32) → Option (Int32 × MS)) (I : Nat → Int32) (A : Nat → Nat → Int32) : Option (Int32 × MS) :=
  some ((0 : Int32), (I, A))

set_option maxRecDepth 100000 in
set_option maxHeartbeats 4000000 in
theorem w_readLine_36 {p : Program} {l : Launch} {e : Env} {s : State} {m : MethodId} {args : Array Value} {below : List Frame} {meth : Method} {c : Code} {Q : State → Prop} {D : va_G} {cy ci : ClassId} {h : Nat → Nat} {A0 : Nat → Prop} {o : Int32 × MS} {R Rr : Room} (hR0 : 9 ≤ R.frames ∧ 234 ≤ R.locals) (hR1 : Rr.cells = 0 ∧ Rr.slots = 0) (hR2 : Rr.frames + 1 ≤ R.frames ∧ 8 + (8 + 11) + Rr.locals ≤ R.locals) {rec : Int32 → Int32 → Int32 → (Nat → Int32) → (Nat → Nat → Int32) → Option (Int32 × MS)} (hrec : ∀ (x1 : Int32) (x2 : Int32) (x3 : Int32) (I : Nat → Int32) (A : Nat → Nat → Int32) (o9 : Int32 × MS), rec x1 x2 x3 I A = some o9 → mMi l yX12_readLine wsX12_readLine Rr [.ref (h 0), .int x1, .int x2, .int x3] D cy ci h I A o9) (X : CallFix p m c cX12_readLine 8 s args wsX12_readLine RX12) (hret : mRi p l e R s m args below meth c Q cX12_readLine D cy ci h A0 .int o) {I : Nat → Int32} {A : Nat → Nat → Int32} {H : Heap} {locs : List Loc} {ls : Array Slot} (hf : f_readLine_36 rec  I A = some o) (hM : mH D cy ci h A0 s H locs I A) (hl : lv_has ls 8 []) : W p l e R s m args below meth c H locs 0 0 Q (F0 m 36 ls []) := by
  obtain ⟨hx, hb, hml, hown, hts⟩ := id X
  unfold f_readLine_36 at hf
  refine lv_iconst (v := (0 : Int32)) hx hb dX12_readLine_36 (by decide) ?_
  cases hf
  exact hret H locs _ ls hM rfl dX12_readLine_37
noncomputable def f_readLine_3s (rec : Int32 → Int32 → Int32 → (Nat → Int32) → (Nat → Nat → Int32) → Option (Int32 × MS)) (self3 : Int32 → Int32 → Int32 → Int32 → (Nat → Int32) → (Nat → Nat → Int32) → Option (Int32 × MS)) (x1 : Int32) (x2 : Int32) (x3 : Int32) (x4 : Int32) (I : Nat → Int32) (A : Nat → Nat → Int32) : Option (Int32 × MS) :=
  m_cl (f_blanks  I A) (fun r1 Ic1 Ac1 =>
  m_if (x3 = 0) (
  m_cl (f_resultHere  Ic1 Ac1) (fun r3 Ic3 Ac3 =>
  m_if (r3 < 0) (
  f_readLine_38 rec self3 x1 x2 x3 x4 Ic3 Ac3
  ) (
  f_readLine_36 rec  Ic3 Ac3
  ))
  ) (
  m_cl (f_look  Ic1 Ac1) (fun r2 Ic2 Ac2 =>
  m_if (r2 = (41 : Int32)) (
  m_if (x4 = x2) (
  f_readLine_38 rec self3 x1 x2 x3 x4 Ic2 Ac2
  ) (
  f_readLine_36 rec  Ic2 Ac2
  )
  ) (
  f_readLine_38 rec self3 x1 x2 x3 x4 Ic2 Ac2
  ))
  ))

set_option maxRecDepth 100000 in
set_option maxHeartbeats 4000000 in
theorem ws_readLine_3 {p : Program} {l : Launch} {e : Env} {s : State} {m : MethodId} {args : Array Value} {below : List Frame} {meth : Method} {c : Code} {Q : State → Prop} {D : va_G} {cy ci : ClassId} {h : Nat → Nat} {A0 : Nat → Prop} {o : Int32 × MS} {R Rr : Room} (hR0 : 9 ≤ R.frames ∧ 234 ≤ R.locals) (hR1 : Rr.cells = 0 ∧ Rr.slots = 0) (hR2 : Rr.frames + 1 ≤ R.frames ∧ 8 + (8 + 11) + Rr.locals ≤ R.locals) {rec : Int32 → Int32 → Int32 → (Nat → Int32) → (Nat → Nat → Int32) → Option (Int32 × MS)} (hrec : ∀ (x1 : Int32) (x2 : Int32) (x3 : Int32) (I : Nat → Int32) (A : Nat → Nat → Int32) (o9 : Int32 × MS), rec x1 x2 x3 I A = some o9 → mMi l yX12_readLine wsX12_readLine Rr [.ref (h 0), .int x1, .int x2, .int x3] D cy ci h I A o9) (X : CallFix p m c cX12_readLine 8 s args wsX12_readLine RX12) (hret : mRi p l e R s m args below meth c Q cX12_readLine D cy ci h A0 .int o) {self3 : Int32 → Int32 → Int32 → Int32 → (Nat → Int32) → (Nat → Nat → Int32) → Option (Int32 × MS)} (hself3 : ∀ (x1 : Int32) (x2 : Int32) (x3 : Int32) (x4 : Int32) (I : Nat → Int32) (A : Nat → Nat → Int32) (H : Heap) (locs : List Loc) (ls : Array Slot), self3 x1 x2 x3 x4 I A = some o → mH D cy ci h A0 s H locs I A → lv_has ls 8 [(0, .ref (h 0)), (1, .int x1), (2, .int x2), (3, .int x3), (4, .int x4)] → W p l e R s m args below meth c H locs 0 0 Q (F0 m 3 ls [])) {x1 : Int32} {x2 : Int32} {x3 : Int32} {x4 : Int32} {I : Nat → Int32} {A : Nat → Nat → Int32} {H : Heap} {locs : List Loc} {ls : Array Slot} (hf : f_readLine_3s rec self3 x1 x2 x3 x4 I A = some o) (hM : mH D cy ci h A0 s H locs I A) (hl : lv_has ls 8 [(0, .ref (h 0)), (1, .int x1), (2, .int x2), (3, .int x3), (4, .int x4)]) : W p l e R s m args below meth c H locs 0 0 Q (F0 m 3 ls []) := by
  obtain ⟨hx, hb, hml, hown, hts⟩ := id X
  unfold f_readLine_3s at hf
  refine lv_aload_n hx hb dX12_readLine_3 rfl (lv_at hl 0 rfl) ?_
  obtain ⟨o1, ho, hf⟩ := m_clE hf
  refine m_callVv X hM (c_blanks ho) gX12_readLine_X12_blanks rfl ⟨rfl, rfl⟩ hd_blanks ⟨Nat.le_trans (Nat.le_of_ble_eq_true rfl) hR0.1, Nat.le_trans (Nat.le_of_ble_eq_true rfl) hR0.2⟩ rfl hl.1 rfl (Nat.le_of_ble_eq_true rfl) dX12_readLine_4 (fun H locs hM => ?_)
  clear ho
  refine lv_iload_n hx hb dX12_readLine_7 rfl (lv_at hl 3 rfl) ?_
  refine lv_if_ne (tgt := 21) hx hb dX12_readLine_8 (by decide) (fun cc1 => ?_) (fun cc1 => ?_)
  · replace hf := m_ifF hf cc1
    refine lv_aload_n hx hb dX12_readLine_21 rfl (lv_at hl 0 rfl) ?_
    obtain ⟨o2, ho, hf⟩ := m_clE hf
    refine m_callVi X hM (c_look ho) gX12_readLine_X12_look rfl ⟨rfl, rfl⟩ hd_look ⟨Nat.le_trans (Nat.le_of_ble_eq_true rfl) hR0.1, Nat.le_trans (Nat.le_of_ble_eq_true rfl) hR0.2⟩ rfl hl.1 rfl (Nat.le_of_ble_eq_true rfl) dX12_readLine_22 (fun H locs hM => ?_)
    clear ho
    refine lv_bipush (v := (41 : Int32)) hx hb dX12_readLine_25 (by decide) ?_
    refine lv_icmp_ne (tgt := 38) hx hb dX12_readLine_27 (by decide) (fun cc1 => ?_) (fun cc1 => ?_)
    · replace hf := m_ifF hf cc1
      exact w_readLine_38 hR0 hR1 hR2 hrec X hret hself3 hf hM (lv_sub hl [0, 1, 2, 3, 4] rfl)
    · replace hf := m_ifT hf cc1
      refine lv_iload hx hb dX12_readLine_30 (lv_at hl 4 rfl) ?_
      refine lv_iload_n hx hb dX12_readLine_32 rfl (lv_at hl 2 rfl) ?_
      refine lv_icmp_eq (tgt := 38) hx hb dX12_readLine_33 (by decide) (fun cc1 => ?_) (fun cc1 => ?_)
      · replace hf := m_ifT hf cc1
        exact w_readLine_38 hR0 hR1 hR2 hrec X hret hself3 hf hM (lv_sub hl [0, 1, 2, 3, 4] rfl)
      · replace hf := m_ifF hf cc1
        exact w_readLine_36 hR0 hR1 hR2 hrec X hret hf hM (lv_sub hl [] rfl)
  · replace hf := m_ifT hf cc1
    refine lv_aload_n hx hb dX12_readLine_11 rfl (lv_at hl 0 rfl) ?_
    obtain ⟨o3, ho, hf⟩ := m_clE hf
    refine m_callVi X hM (c_resultHere ho) gX12_readLine_X12_resultHere rfl ⟨rfl, rfl⟩ hd_resultHere ⟨Nat.le_trans (Nat.le_of_ble_eq_true rfl) hR0.1, Nat.le_trans (Nat.le_of_ble_eq_true rfl) hR0.2⟩ rfl hl.1 rfl (Nat.le_of_ble_eq_true rfl) dX12_readLine_12 (fun H locs hM => ?_)
    clear ho
    refine lv_if_lt (tgt := 38) hx hb dX12_readLine_15 (by decide) (fun cc1 => ?_) (fun cc1 => ?_)
    · replace hf := m_ifT hf cc1
      exact w_readLine_38 hR0 hR1 hR2 hrec X hret hself3 hf hM (lv_sub hl [0, 1, 2, 3, 4] rfl)
    · replace hf := m_ifF hf cc1
      refine lv_goto (tgt := 36) hx hb dX12_readLine_18 (by decide) ?_
      exact w_readLine_36 hR0 hR1 hR2 hrec X hret hf hM (lv_sub hl [] rfl)
noncomputable def f_readLine_3 (rec : Int32 → Int32 → Int32 → (Nat → Int32) → (Nat → Nat → Int32) → Option (Int32 × MS)) : Nat → Int32 → Int32 → Int32 → Int32 → (Nat → Int32) → (Nat → Nat → Int32) → Option (Int32 × MS)
  | 0 => fun _ _ _ _ _ _ => none
  | n + 1 => f_readLine_3s rec (f_readLine_3 rec n)
theorem w_readLine_3 {p : Program} {l : Launch} {e : Env} {s : State} {m : MethodId} {args : Array Value} {below : List Frame} {meth : Method} {c : Code} {Q : State → Prop} {D : va_G} {cy ci : ClassId} {h : Nat → Nat} {A0 : Nat → Prop} {o : Int32 × MS} {R Rr : Room} (hR0 : 9 ≤ R.frames ∧ 234 ≤ R.locals) (hR1 : Rr.cells = 0 ∧ Rr.slots = 0) (hR2 : Rr.frames + 1 ≤ R.frames ∧ 8 + (8 + 11) + Rr.locals ≤ R.locals) {rec : Int32 → Int32 → Int32 → (Nat → Int32) → (Nat → Nat → Int32) → Option (Int32 × MS)} (hrec : ∀ (x1 : Int32) (x2 : Int32) (x3 : Int32) (I : Nat → Int32) (A : Nat → Nat → Int32) (o9 : Int32 × MS), rec x1 x2 x3 I A = some o9 → mMi l yX12_readLine wsX12_readLine Rr [.ref (h 0), .int x1, .int x2, .int x3] D cy ci h I A o9) (X : CallFix p m c cX12_readLine 8 s args wsX12_readLine RX12) (hret : mRi p l e R s m args below meth c Q cX12_readLine D cy ci h A0 .int o) (n : Nat) : ∀ (x1 : Int32) (x2 : Int32) (x3 : Int32) (x4 : Int32) (I : Nat → Int32) (A : Nat → Nat → Int32) (H : Heap) (locs : List Loc) (ls : Array Slot), f_readLine_3 rec n x1 x2 x3 x4 I A = some o → mH D cy ci h A0 s H locs I A → lv_has ls 8 [(0, .ref (h 0)), (1, .int x1), (2, .int x2), (3, .int x3), (4, .int x4)] → W p l e R s m args below meth c H locs 0 0 Q (F0 m 3 ls []) := by
  induction n with
  | zero => intro x1 x2 x3 x4 I A H locs ls hf; cases hf
  | succ n ih => intro x1 x2 x3 x4 I A H locs ls hf hM hl; exact ws_readLine_3 hR0 hR1 hR2 hrec X hret (self3 := f_readLine_3 rec n) ih hf hM hl
noncomputable def f_readLine_0 (rec : Int32 → Int32 → Int32 → (Nat → Int32) → (Nat → Nat → Int32) → Option (Int32 × MS)) (x1 : Int32) (x2 : Int32) (x3 : Int32) (I : Nat → Int32) (A : Nat → Nat → Int32) : Option (Int32 × MS) :=
  f_readLine_3 rec mFuel x1 x2 x3 x2 I A

set_option maxRecDepth 100000 in
set_option maxHeartbeats 4000000 in
theorem w_readLine_0 {p : Program} {l : Launch} {e : Env} {s : State} {m : MethodId} {args : Array Value} {below : List Frame} {meth : Method} {c : Code} {Q : State → Prop} {D : va_G} {cy ci : ClassId} {h : Nat → Nat} {A0 : Nat → Prop} {o : Int32 × MS} {R Rr : Room} (hR0 : 9 ≤ R.frames ∧ 234 ≤ R.locals) (hR1 : Rr.cells = 0 ∧ Rr.slots = 0) (hR2 : Rr.frames + 1 ≤ R.frames ∧ 8 + (8 + 11) + Rr.locals ≤ R.locals) {rec : Int32 → Int32 → Int32 → (Nat → Int32) → (Nat → Nat → Int32) → Option (Int32 × MS)} (hrec : ∀ (x1 : Int32) (x2 : Int32) (x3 : Int32) (I : Nat → Int32) (A : Nat → Nat → Int32) (o9 : Int32 × MS), rec x1 x2 x3 I A = some o9 → mMi l yX12_readLine wsX12_readLine Rr [.ref (h 0), .int x1, .int x2, .int x3] D cy ci h I A o9) (X : CallFix p m c cX12_readLine 8 s args wsX12_readLine RX12) (hret : mRi p l e R s m args below meth c Q cX12_readLine D cy ci h A0 .int o) {x1 : Int32} {x2 : Int32} {x3 : Int32} {I : Nat → Int32} {A : Nat → Nat → Int32} {H : Heap} {locs : List Loc} {ls : Array Slot} (hf : f_readLine_0 rec x1 x2 x3 I A = some o) (hM : mH D cy ci h A0 s H locs I A) (hl : lv_has ls 8 [(0, .ref (h 0)), (1, .int x1), (2, .int x2), (3, .int x3)]) : W p l e R s m args below meth c H locs 0 0 Q (F0 m 0 ls []) := by
  obtain ⟨hx, hb, hml, hown, hts⟩ := id X
  unfold f_readLine_0 at hf
  refine lv_iload_n hx hb dX12_readLine_0 rfl (lv_at hl 2 rfl) ?_
  refine lv_istore (lv' := [(4, .int x2), (0, .ref (h 0)), (1, .int x1), (2, .int x2), (3, .int x3)]) hx hb dX12_readLine_1 hl (by decide) rfl (fun ls hl => ?_)
  exact w_readLine_3 hR0 hR1 hR2 hrec X hret _ _ _ _ _ _ _ _ _ _ hf hM (lv_sub hl [1, 2, 3, 4, 0] rfl)
noncomputable def fr_readLine : Nat → Int32 → Int32 → Int32 → (Nat → Int32) → (Nat → Nat → Int32) → Option (Int32 × MS)
  | 0 => fun _ _ _ _ _ => none
  | n + 1 => fun x1 x2 x3 I A => f_readLine_0 (fr_readLine n) x1 x2 x3 I A
noncomputable abbrev rr_readLine (n : Nat) : Room := { frames := 9 + n, cells := 0, slots := 0, locals := 234 + n * 27 }
theorem cr_readLine {l : Launch} {D : va_G} {cy ci : ClassId} {h : Nat → Nat} (n : Nat) : ∀ (x1 : Int32) (x2 : Int32) (x3 : Int32) (I : Nat → Int32) (A : Nat → Nat → Int32) (o : Int32 × MS), fr_readLine n x1 x2 x3 I A = some o → mMi l yX12_readLine wsX12_readLine (rr_readLine n) [.ref (h 0), .int x1, .int x2, .int x3] D cy ci h I A o := by
  induction n with
  | zero => intro x1 x2 x3 I A o hf; cases hf
  | succ n ih =>
    intro x1 x2 x3 I A o hf
    exact m_entryI (cc := cX12_readLine) (maxL := 8) (by decide) rfl rfl (Nat.le_of_ble_eq_true rfl) (fun p e s m args below meth c A0 Q H locs ls X hret hM hl => w_readLine_0 ⟨by show 9 ≤ 9 + (n + 1); omega, by show 234 ≤ 234 + (n + 1) * 27; omega⟩ ⟨rfl, rfl⟩ ⟨by show 9 + n + 1 ≤ 9 + (n + 1); omega, by show 8 + (8 + 11) + (234 + n * 27) ≤ 234 + (n + 1) * 27; omega⟩ ih X hret hf hM (lv_sub hl [0, 1, 2, 3] rfl))
noncomputable def f_readLine (x1 : Int32) (x2 : Int32) (x3 : Int32) (I : Nat → Int32) (A : Nat → Nat → Int32) : Option (Int32 × MS) := fr_readLine 8 x1 x2 x3 I A
theorem c_readLine {l : Launch} {D : va_G} {cy ci : ClassId} {h : Nat → Nat} {x1 : Int32} {x2 : Int32} {x3 : Int32} {I : Nat → Int32} {A : Nat → Nat → Int32} {o : Int32 × MS} (hf : f_readLine x1 x2 x3 I A = some o) : mMi l yX12_readLine wsX12_readLine ({ frames := 17, cells := 0, slots := 0, locals := 450 } : Room) [.ref (h 0), .int x1, .int x2, .int x3] D cy ci h I A o := cr_readLine 8 x1 x2 x3 I A o hf
theorem hd_resultSize : yX12_resultSize.cls ≠ "java/lang/invoke/MethodHandle" ∧ yX12_resultSize.cls ≠ "java/lang/invoke/VarHandle" ∧ (parseMethodDescriptor yX12_resultSize.desc).map (fun d => d.parameters.length) = some 1 := by decide +kernel
noncomputable def f_resultSize_19 (t0 : Int32) (I : Nat → Int32) (A : Nat → Nat → Int32) : Option (Int32 × MS) :=
  some (t0, (I, A))

set_option maxRecDepth 100000 in
set_option maxHeartbeats 4000000 in
theorem w_resultSize_19 {p : Program} {l : Launch} {e : Env} {s : State} {m : MethodId} {args : Array Value} {below : List Frame} {meth : Method} {c : Code} {Q : State → Prop} {D : va_G} {cy ci : ClassId} {h : Nat → Nat} {A0 : Nat → Prop} {o : Int32 × MS} (X : CallFix p m c cX12_resultSize 1 s args wsX12_resultSize RX12) (hret : mRi p l e ({ frames := 0, cells := 0, slots := 0, locals := 0 } : Room) s m args below meth c Q cX12_resultSize D cy ci h A0 .int o) {t0 : Int32} {I : Nat → Int32} {A : Nat → Nat → Int32} {H : Heap} {locs : List Loc} {ls : Array Slot} (hf : f_resultSize_19 t0 I A = some o) (hM : mH D cy ci h A0 s H locs I A) (hl : lv_has ls 1 []) : W p l e ({ frames := 0, cells := 0, slots := 0, locals := 0 } : Room) s m args below meth c H locs 0 0 Q (F0 m 19 ls [.int t0]) := by
  obtain ⟨hx, hb, hml, hown, hts⟩ := id X
  unfold f_resultSize_19 at hf
  cases hf
  exact hret H locs _ ls hM rfl dX12_resultSize_19
noncomputable def f_resultSize_0 (x0 : Int32) (I : Nat → Int32) (A : Nat → Nat → Int32) : Option (Int32 × MS) :=
  m_if (x0 = 0) (
  f_resultSize_19 (1 : Int32) I A
  ) (
  m_if (x0 = (3 : Int32)) (
  f_resultSize_19 (7 : Int32) I A
  ) (
  f_resultSize_19 (3 : Int32) I A
  )
  )

set_option maxRecDepth 100000 in
set_option maxHeartbeats 4000000 in
theorem w_resultSize_0 {p : Program} {l : Launch} {e : Env} {s : State} {m : MethodId} {args : Array Value} {below : List Frame} {meth : Method} {c : Code} {Q : State → Prop} {D : va_G} {cy ci : ClassId} {h : Nat → Nat} {A0 : Nat → Prop} {o : Int32 × MS} (X : CallFix p m c cX12_resultSize 1 s args wsX12_resultSize RX12) (hret : mRi p l e ({ frames := 0, cells := 0, slots := 0, locals := 0 } : Room) s m args below meth c Q cX12_resultSize D cy ci h A0 .int o) {x0 : Int32} {I : Nat → Int32} {A : Nat → Nat → Int32} {H : Heap} {locs : List Loc} {ls : Array Slot} (hf : f_resultSize_0 x0 I A = some o) (hM : mH D cy ci h A0 s H locs I A) (hl : lv_has ls 1 [(0, .int x0)]) : W p l e ({ frames := 0, cells := 0, slots := 0, locals := 0 } : Room) s m args below meth c H locs 0 0 Q (F0 m 0 ls []) := by
  obtain ⟨hx, hb, hml, hown, hts⟩ := id X
  unfold f_resultSize_0 at hf
  refine lv_iload_n hx hb dX12_resultSize_0 rfl (lv_at hl 0 rfl) ?_
  refine lv_if_ne (tgt := 8) hx hb dX12_resultSize_1 (by decide) (fun cc1 => ?_) (fun cc1 => ?_)
  · replace hf := m_ifF hf cc1
    refine lv_iload_n hx hb dX12_resultSize_8 rfl (lv_at hl 0 rfl) ?_
    refine lv_iconst (v := (3 : Int32)) hx hb dX12_resultSize_9 (by decide) ?_
    refine lv_icmp_ne (tgt := 18) hx hb dX12_resultSize_10 (by decide) (fun cc1 => ?_) (fun cc1 => ?_)
    · replace hf := m_ifF hf cc1
      refine lv_iconst (v := (3 : Int32)) hx hb dX12_resultSize_18 (by decide) ?_
      exact w_resultSize_19 X hret hf hM (lv_sub hl [] rfl)
    · replace hf := m_ifT hf cc1
      refine lv_bipush (v := (7 : Int32)) hx hb dX12_resultSize_13 (by decide) ?_
      refine lv_goto (tgt := 19) hx hb dX12_resultSize_15 (by decide) ?_
      exact w_resultSize_19 X hret hf hM (lv_sub hl [] rfl)
  · replace hf := m_ifT hf cc1
    refine lv_iconst (v := (1 : Int32)) hx hb dX12_resultSize_4 (by decide) ?_
    refine lv_goto (tgt := 19) hx hb dX12_resultSize_5 (by decide) ?_
    exact w_resultSize_19 X hret hf hM (lv_sub hl [] rfl)
noncomputable def f_resultSize (x0 : Int32) (I : Nat → Int32) (A : Nat → Nat → Int32) : Option (Int32 × MS) := f_resultSize_0 x0 I A
theorem c_resultSize {l : Launch} {D : va_G} {cy ci : ClassId} {h : Nat → Nat} {x0 : Int32} {I : Nat → Int32} {A : Nat → Nat → Int32} {o : Int32 × MS} (hf : f_resultSize x0 I A = some o) : mMi l yX12_resultSize wsX12_resultSize ({ frames := 0, cells := 0, slots := 0, locals := 0 } : Room) [.int x0] D cy ci h I A o :=
  m_entryI (cc := cX12_resultSize) (maxL := 1) (by decide) rfl rfl (Nat.le_of_ble_eq_true rfl) (fun p e s m args below meth c A0 Q H locs ls X hret hM hl => w_resultSize_0 X hret hf hM (lv_sub hl [0] rfl))
theorem hd_resultSign : yX12_resultSign.cls ≠ "java/lang/invoke/MethodHandle" ∧ yX12_resultSign.cls ≠ "java/lang/invoke/VarHandle" ∧ (parseMethodDescriptor yX12_resultSign.desc).map (fun d => d.parameters.length) = some 2 := by decide +kernel
noncomputable def f_resultSign_52 (t0 : Int32) (I : Nat → Int32) (A : Nat → Nat → Int32) : Option (Int32 × MS) :=
  m_chk (vp_nar .char t0 = t0) (some (t0, (I, A)))

set_option maxRecDepth 100000 in
set_option maxHeartbeats 4000000 in
theorem w_resultSign_52 {p : Program} {l : Launch} {e : Env} {s : State} {m : MethodId} {args : Array Value} {below : List Frame} {meth : Method} {c : Code} {Q : State → Prop} {D : va_G} {cy ci : ClassId} {h : Nat → Nat} {A0 : Nat → Prop} {o : Int32 × MS} (X : CallFix p m c cX12_resultSign 2 s args wsX12_resultSign RX12) (hret : mRi p l e ({ frames := 0, cells := 0, slots := 0, locals := 0 } : Room) s m args below meth c Q cX12_resultSign D cy ci h A0 .char o) {t0 : Int32} {I : Nat → Int32} {A : Nat → Nat → Int32} {H : Heap} {locs : List Loc} {ls : Array Slot} (hf : f_resultSign_52 t0 I A = some o) (hM : mH D cy ci h A0 s H locs I A) (hl : lv_has ls 2 []) : W p l e ({ frames := 0, cells := 0, slots := 0, locals := 0 } : Room) s m args below meth c H locs 0 0 Q (F0 m 52 ls [.int t0]) := by
  obtain ⟨hx, hb, hml, hown, hts⟩ := id X
  unfold f_resultSign_52 at hf
  obtain ⟨cd, hf⟩ := m_chkE hf
  cases hf
  exact hret H locs _ ls hM (m_nc cd) dX12_resultSign_52
noncomputable def f_resultSign_74 (t0 : Int32) (I : Nat → Int32) (A : Nat → Nat → Int32) : Option (Int32 × MS) :=
  m_chk (vp_nar .char t0 = t0) (some (t0, (I, A)))

set_option maxRecDepth 100000 in
set_option maxHeartbeats 4000000 in
theorem w_resultSign_74 {p : Program} {l : Launch} {e : Env} {s : State} {m : MethodId} {args : Array Value} {below : List Frame} {meth : Method} {c : Code} {Q : State → Prop} {D : va_G} {cy ci : ClassId} {h : Nat → Nat} {A0 : Nat → Prop} {o : Int32 × MS} (X : CallFix p m c cX12_resultSign 2 s args wsX12_resultSign RX12) (hret : mRi p l e ({ frames := 0, cells := 0, slots := 0, locals := 0 } : Room) s m args below meth c Q cX12_resultSign D cy ci h A0 .char o) {t0 : Int32} {I : Nat → Int32} {A : Nat → Nat → Int32} {H : Heap} {locs : List Loc} {ls : Array Slot} (hf : f_resultSign_74 t0 I A = some o) (hM : mH D cy ci h A0 s H locs I A) (hl : lv_has ls 2 []) : W p l e ({ frames := 0, cells := 0, slots := 0, locals := 0 } : Room) s m args below meth c H locs 0 0 Q (F0 m 74 ls [.int t0]) := by
  obtain ⟨hx, hb, hml, hown, hts⟩ := id X
  unfold f_resultSign_74 at hf
  obtain ⟨cd, hf⟩ := m_chkE hf
  cases hf
  exact hret H locs _ ls hM (m_nc cd) dX12_resultSign_74
noncomputable def f_resultSign_116 (t0 : Int32) (I : Nat → Int32) (A : Nat → Nat → Int32) : Option (Int32 × MS) :=
  m_chk (vp_nar .char t0 = t0) (some (t0, (I, A)))

set_option maxRecDepth 100000 in
set_option maxHeartbeats 4000000 in
theorem w_resultSign_116 {p : Program} {l : Launch} {e : Env} {s : State} {m : MethodId} {args : Array Value} {below : List Frame} {meth : Method} {c : Code} {Q : State → Prop} {D : va_G} {cy ci : ClassId} {h : Nat → Nat} {A0 : Nat → Prop} {o : Int32 × MS} (X : CallFix p m c cX12_resultSign 2 s args wsX12_resultSign RX12) (hret : mRi p l e ({ frames := 0, cells := 0, slots := 0, locals := 0 } : Room) s m args below meth c Q cX12_resultSign D cy ci h A0 .char o) {t0 : Int32} {I : Nat → Int32} {A : Nat → Nat → Int32} {H : Heap} {locs : List Loc} {ls : Array Slot} (hf : f_resultSign_116 t0 I A = some o) (hM : mH D cy ci h A0 s H locs I A) (hl : lv_has ls 2 []) : W p l e ({ frames := 0, cells := 0, slots := 0, locals := 0 } : Room) s m args below meth c H locs 0 0 Q (F0 m 116 ls [.int t0]) := by
  obtain ⟨hx, hb, hml, hown, hts⟩ := id X
  unfold f_resultSign_116 at hf
  obtain ⟨cd, hf⟩ := m_chkE hf
  cases hf
  exact hret H locs _ ls hM (m_nc cd) dX12_resultSign_116
noncomputable def f_resultSign_85 (I : Nat → Int32) (A : Nat → Nat → Int32) : Option (Int32 × MS) :=
  f_resultSign_116 (47 : Int32) I A

set_option maxRecDepth 100000 in
set_option maxHeartbeats 4000000 in
theorem w_resultSign_85 {p : Program} {l : Launch} {e : Env} {s : State} {m : MethodId} {args : Array Value} {below : List Frame} {meth : Method} {c : Code} {Q : State → Prop} {D : va_G} {cy ci : ClassId} {h : Nat → Nat} {A0 : Nat → Prop} {o : Int32 × MS} (X : CallFix p m c cX12_resultSign 2 s args wsX12_resultSign RX12) (hret : mRi p l e ({ frames := 0, cells := 0, slots := 0, locals := 0 } : Room) s m args below meth c Q cX12_resultSign D cy ci h A0 .char o) {I : Nat → Int32} {A : Nat → Nat → Int32} {H : Heap} {locs : List Loc} {ls : Array Slot} (hf : f_resultSign_85  I A = some o) (hM : mH D cy ci h A0 s H locs I A) (hl : lv_has ls 2 []) : W p l e ({ frames := 0, cells := 0, slots := 0, locals := 0 } : Room) s m args below meth c H locs 0 0 Q (F0 m 85 ls []) := by
  obtain ⟨hx, hb, hml, hown, hts⟩ := id X
  unfold f_resultSign_85 at hf
  refine lv_bipush (v := (47 : Int32)) hx hb dX12_resultSign_85 (by decide) ?_
  refine lv_goto (tgt := 116) hx hb dX12_resultSign_87 (by decide) ?_
  exact w_resultSign_116 X hret hf hM (lv_sub hl [] rfl)
noncomputable def f_resultSign_109 (I : Nat → Int32) (A : Nat → Nat → Int32) : Option (Int32 × MS) :=
  f_resultSign_116 (49 : Int32) I A

set_option maxRecDepth 100000 in
set_option maxHeartbeats 4000000 in
theorem w_resultSign_109 {p : Program} {l : Launch} {e : Env} {s : State} {m : MethodId} {args : Array Value} {below : List Frame} {meth : Method} {c : Code} {Q : State → Prop} {D : va_G} {cy ci : ClassId} {h : Nat → Nat} {A0 : Nat → Prop} {o : Int32 × MS} (X : CallFix p m c cX12_resultSign 2 s args wsX12_resultSign RX12) (hret : mRi p l e ({ frames := 0, cells := 0, slots := 0, locals := 0 } : Room) s m args below meth c Q cX12_resultSign D cy ci h A0 .char o) {I : Nat → Int32} {A : Nat → Nat → Int32} {H : Heap} {locs : List Loc} {ls : Array Slot} (hf : f_resultSign_109  I A = some o) (hM : mH D cy ci h A0 s H locs I A) (hl : lv_has ls 2 []) : W p l e ({ frames := 0, cells := 0, slots := 0, locals := 0 } : Room) s m args below meth c H locs 0 0 Q (F0 m 109 ls []) := by
  obtain ⟨hx, hb, hml, hown, hts⟩ := id X
  unfold f_resultSign_109 at hf
  refine lv_bipush (v := (49 : Int32)) hx hb dX12_resultSign_109 (by decide) ?_
  refine lv_goto (tgt := 116) hx hb dX12_resultSign_111 (by decide) ?_
  exact w_resultSign_116 X hret hf hM (lv_sub hl [] rfl)
noncomputable def f_resultSign_0 (x0 : Int32) (x1 : Int32) (I : Nat → Int32) (A : Nat → Nat → Int32) : Option (Int32 × MS) :=
  m_if (x0 = (0 : Int32)) (
  m_chk (vp_nar .char (42 : Int32) = (42 : Int32)) (some ((42 : Int32), (I, A)))
  ) (
  m_if (x0 = (1 : Int32)) (
  m_if (x1 = 0) (
  f_resultSign_52 (49 : Int32) I A
  ) (
  m_if (x1 = (1 : Int32)) (
  f_resultSign_52 (45 : Int32) I A
  ) (
  f_resultSign_52 (48 : Int32) I A
  )
  )
  ) (
  m_if (x0 = (2 : Int32)) (
  m_if (x1 = 0) (
  f_resultSign_74 (48 : Int32) I A
  ) (
  m_if (x1 = (1 : Int32)) (
  f_resultSign_74 (45 : Int32) I A
  ) (
  f_resultSign_74 (49 : Int32) I A
  )
  )
  ) (
  m_if (x1 = (1 : Int32)) (
  f_resultSign_85  I A
  ) (
  m_if (x1 = (5 : Int32)) (
  f_resultSign_85  I A
  ) (
  m_if (x1 = (3 : Int32)) (
  f_resultSign_116 (45 : Int32) I A
  ) (
  m_if (x1 = 0) (
  f_resultSign_109  I A
  ) (
  m_if (x1 = (4 : Int32)) (
  f_resultSign_109  I A
  ) (
  f_resultSign_116 (50 : Int32) I A
  )
  )
  )
  )
  )
  )))

set_option maxRecDepth 100000 in
set_option maxHeartbeats 4000000 in
theorem w_resultSign_0 {p : Program} {l : Launch} {e : Env} {s : State} {m : MethodId} {args : Array Value} {below : List Frame} {meth : Method} {c : Code} {Q : State → Prop} {D : va_G} {cy ci : ClassId} {h : Nat → Nat} {A0 : Nat → Prop} {o : Int32 × MS} (X : CallFix p m c cX12_resultSign 2 s args wsX12_resultSign RX12) (hret : mRi p l e ({ frames := 0, cells := 0, slots := 0, locals := 0 } : Room) s m args below meth c Q cX12_resultSign D cy ci h A0 .char o) {x0 : Int32} {x1 : Int32} {I : Nat → Int32} {A : Nat → Nat → Int32} {H : Heap} {locs : List Loc} {ls : Array Slot} (hf : f_resultSign_0 x0 x1 I A = some o) (hM : mH D cy ci h A0 s H locs I A) (hl : lv_has ls 2 [(0, .int x0), (1, .int x1)]) : W p l e ({ frames := 0, cells := 0, slots := 0, locals := 0 } : Room) s m args below meth c H locs 0 0 Q (F0 m 0 ls []) := by
  obtain ⟨hx, hb, hml, hown, hts⟩ := id X
  unfold f_resultSign_0 at hf
  refine lv_iload_n hx hb dX12_resultSign_0 rfl (lv_at hl 0 rfl) ?_
  by_cases ck0 : x0 = (0 : Int32)
  · replace hf := m_ifT hf ck0
    refine lv_tableIn (off := 27) (tgt := 28) hx hb dX12_resultSign_1 (by rw [ck0]; decide) (by rw [ck0]; decide) (by rw [ck0]; decide) (by decide) ?_
    refine lv_bipush (v := (42 : Int32)) hx hb dX12_resultSign_28 (by decide) ?_
    obtain ⟨cd, hf⟩ := m_chkE hf
    cases hf
    exact hret H locs _ ls hM (m_nc cd) dX12_resultSign_30
  · replace hf := m_ifF hf ck0
    by_cases ck1 : x0 = (1 : Int32)
    · replace hf := m_ifT hf ck1
      refine lv_tableIn (off := 30) (tgt := 31) hx hb dX12_resultSign_1 (by rw [ck1]; decide) (by rw [ck1]; decide) (by rw [ck1]; decide) (by decide) ?_
      refine lv_iload_n hx hb dX12_resultSign_31 rfl (lv_at hl 1 rfl) ?_
      refine lv_if_ne (tgt := 40) hx hb dX12_resultSign_32 (by decide) (fun cc1 => ?_) (fun cc1 => ?_)
      · replace hf := m_ifF hf cc1
        refine lv_iload_n hx hb dX12_resultSign_40 rfl (lv_at hl 1 rfl) ?_
        refine lv_iconst (v := (1 : Int32)) hx hb dX12_resultSign_41 (by decide) ?_
        refine lv_icmp_ne (tgt := 50) hx hb dX12_resultSign_42 (by decide) (fun cc1 => ?_) (fun cc1 => ?_)
        · replace hf := m_ifF hf cc1
          refine lv_bipush (v := (48 : Int32)) hx hb dX12_resultSign_50 (by decide) ?_
          exact w_resultSign_52 X hret hf hM (lv_sub hl [] rfl)
        · replace hf := m_ifT hf cc1
          refine lv_bipush (v := (45 : Int32)) hx hb dX12_resultSign_45 (by decide) ?_
          refine lv_goto (tgt := 52) hx hb dX12_resultSign_47 (by decide) ?_
          exact w_resultSign_52 X hret hf hM (lv_sub hl [] rfl)
      · replace hf := m_ifT hf cc1
        refine lv_bipush (v := (49 : Int32)) hx hb dX12_resultSign_35 (by decide) ?_
        refine lv_goto (tgt := 52) hx hb dX12_resultSign_37 (by decide) ?_
        exact w_resultSign_52 X hret hf hM (lv_sub hl [] rfl)
    · replace hf := m_ifF hf ck1
      by_cases ck2 : x0 = (2 : Int32)
      · replace hf := m_ifT hf ck2
        refine lv_tableIn (off := 52) (tgt := 53) hx hb dX12_resultSign_1 (by rw [ck2]; decide) (by rw [ck2]; decide) (by rw [ck2]; decide) (by decide) ?_
        refine lv_iload_n hx hb dX12_resultSign_53 rfl (lv_at hl 1 rfl) ?_
        refine lv_if_ne (tgt := 62) hx hb dX12_resultSign_54 (by decide) (fun cc1 => ?_) (fun cc1 => ?_)
        · replace hf := m_ifF hf cc1
          refine lv_iload_n hx hb dX12_resultSign_62 rfl (lv_at hl 1 rfl) ?_
          refine lv_iconst (v := (1 : Int32)) hx hb dX12_resultSign_63 (by decide) ?_
          refine lv_icmp_ne (tgt := 72) hx hb dX12_resultSign_64 (by decide) (fun cc1 => ?_) (fun cc1 => ?_)
          · replace hf := m_ifF hf cc1
            refine lv_bipush (v := (49 : Int32)) hx hb dX12_resultSign_72 (by decide) ?_
            exact w_resultSign_74 X hret hf hM (lv_sub hl [] rfl)
          · replace hf := m_ifT hf cc1
            refine lv_bipush (v := (45 : Int32)) hx hb dX12_resultSign_67 (by decide) ?_
            refine lv_goto (tgt := 74) hx hb dX12_resultSign_69 (by decide) ?_
            exact w_resultSign_74 X hret hf hM (lv_sub hl [] rfl)
        · replace hf := m_ifT hf cc1
          refine lv_bipush (v := (48 : Int32)) hx hb dX12_resultSign_57 (by decide) ?_
          refine lv_goto (tgt := 74) hx hb dX12_resultSign_59 (by decide) ?_
          exact w_resultSign_74 X hret hf hM (lv_sub hl [] rfl)
      · replace hf := m_ifF hf ck2
        refine m_tabD (tgt := 75) [(0 : Int32), (1 : Int32), (2 : Int32)] hx hb dX12_resultSign_1 (by decide) (by decide) (List.forall_mem_cons.mpr ⟨ck0, List.forall_mem_cons.mpr ⟨ck1, List.forall_mem_cons.mpr ⟨ck2, fun _ h9 => absurd h9 List.not_mem_nil⟩⟩⟩) (by decide) ?_
        refine lv_iload_n hx hb dX12_resultSign_75 rfl (lv_at hl 1 rfl) ?_
        refine lv_iconst (v := (1 : Int32)) hx hb dX12_resultSign_76 (by decide) ?_
        refine lv_icmp_eq (tgt := 85) hx hb dX12_resultSign_77 (by decide) (fun cc1 => ?_) (fun cc1 => ?_)
        · replace hf := m_ifT hf cc1
          exact w_resultSign_85 X hret hf hM (lv_sub hl [] rfl)
        · replace hf := m_ifF hf cc1
          refine lv_iload_n hx hb dX12_resultSign_80 rfl (lv_at hl 1 rfl) ?_
          refine lv_iconst (v := (5 : Int32)) hx hb dX12_resultSign_81 (by decide) ?_
          refine lv_icmp_ne (tgt := 90) hx hb dX12_resultSign_82 (by decide) (fun cc1 => ?_) (fun cc1 => ?_)
          · replace hf := m_ifF hf cc1
            refine lv_iload_n hx hb dX12_resultSign_90 rfl (lv_at hl 1 rfl) ?_
            refine lv_iconst (v := (3 : Int32)) hx hb dX12_resultSign_91 (by decide) ?_
            refine lv_icmp_ne (tgt := 100) hx hb dX12_resultSign_92 (by decide) (fun cc1 => ?_) (fun cc1 => ?_)
            · replace hf := m_ifF hf cc1
              refine lv_iload_n hx hb dX12_resultSign_100 rfl (lv_at hl 1 rfl) ?_
              refine lv_if_eq (tgt := 109) hx hb dX12_resultSign_101 (by decide) (fun cc1 => ?_) (fun cc1 => ?_)
              · replace hf := m_ifT hf cc1
                exact w_resultSign_109 X hret hf hM (lv_sub hl [] rfl)
              · replace hf := m_ifF hf cc1
                refine lv_iload_n hx hb dX12_resultSign_104 rfl (lv_at hl 1 rfl) ?_
                refine lv_iconst (v := (4 : Int32)) hx hb dX12_resultSign_105 (by decide) ?_
                refine lv_icmp_ne (tgt := 114) hx hb dX12_resultSign_106 (by decide) (fun cc1 => ?_) (fun cc1 => ?_)
                · replace hf := m_ifF hf cc1
                  refine lv_bipush (v := (50 : Int32)) hx hb dX12_resultSign_114 (by decide) ?_
                  exact w_resultSign_116 X hret hf hM (lv_sub hl [] rfl)
                · replace hf := m_ifT hf cc1
                  exact w_resultSign_109 X hret hf hM (lv_sub hl [] rfl)
            · replace hf := m_ifT hf cc1
              refine lv_bipush (v := (45 : Int32)) hx hb dX12_resultSign_95 (by decide) ?_
              refine lv_goto (tgt := 116) hx hb dX12_resultSign_97 (by decide) ?_
              exact w_resultSign_116 X hret hf hM (lv_sub hl [] rfl)
          · replace hf := m_ifT hf cc1
            exact w_resultSign_85 X hret hf hM (lv_sub hl [] rfl)
noncomputable def f_resultSign (x0 : Int32) (x1 : Int32) (I : Nat → Int32) (A : Nat → Nat → Int32) : Option (Int32 × MS) := f_resultSign_0 x0 x1 I A
theorem c_resultSign {l : Launch} {D : va_G} {cy ci : ClassId} {h : Nat → Nat} {x0 : Int32} {x1 : Int32} {I : Nat → Int32} {A : Nat → Nat → Int32} {o : Int32 × MS} (hf : f_resultSign x0 x1 I A = some o) : mMi l yX12_resultSign wsX12_resultSign ({ frames := 0, cells := 0, slots := 0, locals := 0 } : Room) [.int x0, .int x1] D cy ci h I A o :=
  m_entryI (cc := cX12_resultSign) (maxL := 2) (by decide) rfl rfl (Nat.le_of_ble_eq_true rfl) (fun p e s m args below meth c A0 Q H locs ls X hret hM hl => w_resultSign_0 X hret hf hM (lv_sub hl [0, 1] rfl))
theorem hw_isResultValue : ∀ w ∈ wsX120, w ∈ wsX12_isResultValue := by decide +kernel
theorem fl_isResultValue_21 : Cond.fieldLink RX12 61 "MoveTextsModel" "valueSize" "[I" ∈ wsX12_isResultValue := by decide +kernel
theorem fl_isResultValue_22 : Cond.fieldLink RX12 64 "MoveTextsModel" "values" "[C" ∈ wsX12_isResultValue := by decide +kernel
theorem hd_isResultValue : yX12_isResultValue.cls = RX12 ∧ yX12_isResultValue.cls ≠ "java/lang/invoke/MethodHandle" ∧ yX12_isResultValue.cls ≠ "java/lang/invoke/VarHandle" ∧ (parseMethodDescriptor yX12_isResultValue.desc).map (fun d => d.parameters.length) = some 3 := by decide +kernel
noncomputable def f_isResultValue_82 (x4 : Int32) (I : Nat → Int32) (A : Nat → Nat → Int32) : Option (Int32 × MS) :=
  m_chk (vp_nar .boolean x4 = x4) (some (x4, (I, A)))

set_option maxRecDepth 100000 in
set_option maxHeartbeats 4000000 in
theorem w_isResultValue_82 {p : Program} {l : Launch} {e : Env} {s : State} {m : MethodId} {args : Array Value} {below : List Frame} {meth : Method} {c : Code} {Q : State → Prop} {D : va_G} {cy ci : ClassId} {h : Nat → Nat} {A0 : Nat → Prop} {o : Int32 × MS} (X : CallFix p m c cX12_isResultValue 6 s args wsX12_isResultValue RX12) (hret : mRi p l e ({ frames := 1, cells := 0, slots := 0, locals := 21 } : Room) s m args below meth c Q cX12_isResultValue D cy ci h A0 .boolean o) {x4 : Int32} {I : Nat → Int32} {A : Nat → Nat → Int32} {H : Heap} {locs : List Loc} {ls : Array Slot} (hf : f_isResultValue_82 x4 I A = some o) (hM : mH D cy ci h A0 s H locs I A) (hl : lv_has ls 6 [(4, .int x4)]) : W p l e ({ frames := 1, cells := 0, slots := 0, locals := 21 } : Room) s m args below meth c H locs 0 0 Q (F0 m 82 ls []) := by
  obtain ⟨hx, hb, hml, hown, hts⟩ := id X
  unfold f_isResultValue_82 at hf
  refine lv_iload hx hb dX12_isResultValue_82 (lv_at hl 0 rfl) ?_
  obtain ⟨cd, hf⟩ := m_chkE hf
  cases hf
  exact hret H locs _ ls hM (m_nb cd) dX12_isResultValue_84
noncomputable def f_isResultValue_74 (self28 : Int32 → Int32 → Int32 → Int32 → Int32 → (Nat → Int32) → (Nat → Nat → Int32) → Option (Int32 × MS)) (x1 : Int32) (x2 : Int32) (x3 : Int32) (x5 : Int32) (t0 : Int32) (I : Nat → Int32) (A : Nat → Nat → Int32) : Option (Int32 × MS) :=
  m_bnd (x5 + (1 : Int32)) (fun v1 =>
  self28 x1 x2 x3 t0 v1 I A)

set_option maxRecDepth 100000 in
set_option maxHeartbeats 4000000 in
theorem w_isResultValue_74 {p : Program} {l : Launch} {e : Env} {s : State} {m : MethodId} {args : Array Value} {below : List Frame} {meth : Method} {c : Code} {Q : State → Prop} {D : va_G} {cy ci : ClassId} {h : Nat → Nat} {A0 : Nat → Prop} {o : Int32 × MS} (X : CallFix p m c cX12_isResultValue 6 s args wsX12_isResultValue RX12) (hret : mRi p l e ({ frames := 1, cells := 0, slots := 0, locals := 21 } : Room) s m args below meth c Q cX12_isResultValue D cy ci h A0 .boolean o) {self28 : Int32 → Int32 → Int32 → Int32 → Int32 → (Nat → Int32) → (Nat → Nat → Int32) → Option (Int32 × MS)} (hself28 : ∀ (x1 : Int32) (x2 : Int32) (x3 : Int32) (x4 : Int32) (x5 : Int32) (I : Nat → Int32) (A : Nat → Nat → Int32) (H : Heap) (locs : List Loc) (ls : Array Slot), self28 x1 x2 x3 x4 x5 I A = some o → mH D cy ci h A0 s H locs I A → lv_has ls 6 [(0, .ref (h 0)), (1, .int x1), (2, .int x2), (3, .int x3), (4, .int x4), (5, .int x5)] → W p l e ({ frames := 1, cells := 0, slots := 0, locals := 21 } : Room) s m args below meth c H locs 0 0 Q (F0 m 28 ls [])) {x1 : Int32} {x2 : Int32} {x3 : Int32} {x5 : Int32} {t0 : Int32} {I : Nat → Int32} {A : Nat → Nat → Int32} {H : Heap} {locs : List Loc} {ls : Array Slot} (hf : f_isResultValue_74 self28 x1 x2 x3 x5 t0 I A = some o) (hM : mH D cy ci h A0 s H locs I A) (hl : lv_has ls 6 [(0, .ref (h 0)), (1, .int x1), (2, .int x2), (3, .int x3), (5, .int x5)]) : W p l e ({ frames := 1, cells := 0, slots := 0, locals := 21 } : Room) s m args below meth c H locs 0 0 Q (F0 m 74 ls [.int t0]) := by
  obtain ⟨hx, hb, hml, hown, hts⟩ := id X
  unfold f_isResultValue_74 at hf
  refine lv_istore (lv' := [(4, .int t0), (0, .ref (h 0)), (1, .int x1), (2, .int x2), (3, .int x3), (5, .int x5)]) hx hb dX12_isResultValue_74 hl (by decide) rfl (fun ls hl => ?_)
  obtain ⟨v1, ev, hf⟩ := m_bndE hf
  refine lv_iinc (v := v1) (lv' := [(5, .int v1), (4, .int t0), (0, .ref (h 0)), (1, .int x1), (2, .int x2), (3, .int x3)]) hx hb dX12_isResultValue_76 hl (k := 5) rfl (by rw [ev]; rfl) (by decide) rfl (fun ls hl => ?_)
  clear ev
  refine lv_goto (tgt := 28) hx hb dX12_isResultValue_79 (by decide) ?_
  exact hself28 _ _ _ _ _ _ _ _ _ _ hf hM (lv_sub hl [2, 3, 4, 5, 1, 0] rfl)
noncomputable def f_isResultValue_28s (self28 : Int32 → Int32 → Int32 → Int32 → Int32 → (Nat → Int32) → (Nat → Nat → Int32) → Option (Int32 × MS)) (x1 : Int32) (x2 : Int32) (x3 : Int32) (x4 : Int32) (x5 : Int32) (I : Nat → Int32) (A : Nat → Nat → Int32) : Option (Int32 × MS) :=
  m_cl (f_resultSize x3 I A) (fun r1 Ic1 Ac1 =>
  m_if (r1 ≤ x5) (
  f_isResultValue_82 x4 Ic1 Ac1
  ) (
  m_if (x4 = 0) (
  f_isResultValue_82 x4 Ic1 Ac1
  ) (
  m_bnd ((768 : Int32) * x1) (fun v2 =>
  m_bnd ((96 : Int32) * x2) (fun v3 =>
  m_bnd (v2 + v3) (fun v4 =>
  m_bnd (v4 + x5) (fun v5 =>
  m_chk (¬ (v5 < 0 ∨ 1536 ≤ (v5).toNatClampNeg)) (
  m_bnd (Ac1 22 (v5).toNatClampNeg) (fun v6 =>
  m_cl (f_resultSign x3 x5 Ic1 Ac1) (fun r7 Ic7 Ac7 =>
  m_if (v6 = r7) (
  f_isResultValue_74 self28 x1 x2 x3 x5 (1 : Int32) Ic7 Ac7
  ) (
  f_isResultValue_74 self28 x1 x2 x3 x5 (0 : Int32) Ic7 Ac7
  ))))))))
  )
  ))

set_option maxRecDepth 100000 in
set_option maxHeartbeats 4000000 in
theorem ws_isResultValue_28 {p : Program} {l : Launch} {e : Env} {s : State} {m : MethodId} {args : Array Value} {below : List Frame} {meth : Method} {c : Code} {Q : State → Prop} {D : va_G} {cy ci : ClassId} {h : Nat → Nat} {A0 : Nat → Prop} {o : Int32 × MS} (X : CallFix p m c cX12_isResultValue 6 s args wsX12_isResultValue RX12) (hret : mRi p l e ({ frames := 1, cells := 0, slots := 0, locals := 21 } : Room) s m args below meth c Q cX12_isResultValue D cy ci h A0 .boolean o) {self28 : Int32 → Int32 → Int32 → Int32 → Int32 → (Nat → Int32) → (Nat → Nat → Int32) → Option (Int32 × MS)} (hself28 : ∀ (x1 : Int32) (x2 : Int32) (x3 : Int32) (x4 : Int32) (x5 : Int32) (I : Nat → Int32) (A : Nat → Nat → Int32) (H : Heap) (locs : List Loc) (ls : Array Slot), self28 x1 x2 x3 x4 x5 I A = some o → mH D cy ci h A0 s H locs I A → lv_has ls 6 [(0, .ref (h 0)), (1, .int x1), (2, .int x2), (3, .int x3), (4, .int x4), (5, .int x5)] → W p l e ({ frames := 1, cells := 0, slots := 0, locals := 21 } : Room) s m args below meth c H locs 0 0 Q (F0 m 28 ls [])) {x1 : Int32} {x2 : Int32} {x3 : Int32} {x4 : Int32} {x5 : Int32} {I : Nat → Int32} {A : Nat → Nat → Int32} {H : Heap} {locs : List Loc} {ls : Array Slot} (hf : f_isResultValue_28s self28 x1 x2 x3 x4 x5 I A = some o) (hM : mH D cy ci h A0 s H locs I A) (hl : lv_has ls 6 [(0, .ref (h 0)), (1, .int x1), (2, .int x2), (3, .int x3), (4, .int x4), (5, .int x5)]) : W p l e ({ frames := 1, cells := 0, slots := 0, locals := 21 } : Room) s m args below meth c H locs 0 0 Q (F0 m 28 ls []) := by
  obtain ⟨hx, hb, hml, hown, hts⟩ := id X
  unfold f_isResultValue_28s at hf
  refine lv_iload hx hb dX12_isResultValue_28 (lv_at hl 5 rfl) ?_
  refine lv_iload_n hx hb dX12_isResultValue_30 rfl (lv_at hl 3 rfl) ?_
  obtain ⟨o1, ho, hf⟩ := m_clE hf
  refine m_callSi X hM (c_resultSize ho) gX12_isResultValue_X12_resultSize rfl ⟨rfl, rfl⟩ hd_resultSize ⟨Nat.le_of_ble_eq_true rfl, Nat.le_of_ble_eq_true rfl⟩ rfl hl.1 rfl (Nat.le_of_ble_eq_true rfl) dX12_isResultValue_31 (fun H locs hM => ?_)
  clear ho
  refine lv_icmp_ge (tgt := 82) hx hb dX12_isResultValue_34 (by decide) (fun cc1 => ?_) (fun cc1 => ?_)
  · replace hf := m_ifT hf cc1
    exact w_isResultValue_82 X hret hf hM (lv_sub hl [4] rfl)
  · replace hf := m_ifF hf cc1
    refine lv_iload hx hb dX12_isResultValue_37 (lv_at hl 4 rfl) ?_
    refine lv_if_eq (tgt := 82) hx hb dX12_isResultValue_39 (by decide) (fun cc1 => ?_) (fun cc1 => ?_)
    · replace hf := m_ifT hf cc1
      exact w_isResultValue_82 X hret hf hM (lv_sub hl [4] rfl)
    · replace hf := m_ifF hf cc1
      refine lv_aload_n hx hb dX12_isResultValue_42 rfl (lv_at hl 0 rfl) ?_
      refine m_get (v := .ref (h 22)) X hw_isResultValue hM 22 (by decide) fl_isResultValue_22 rfl dX12_isResultValue_43 ?_
      refine lv_sipush (v := (768 : Int32)) hx hb dX12_isResultValue_46 (by decide) ?_
      refine lv_iload_n hx hb dX12_isResultValue_49 rfl (lv_at hl 1 rfl) ?_
      refine lv_imul hx hb dX12_isResultValue_50 ?_
      obtain ⟨v2, ev, hf⟩ := m_bndE hf
      refine m_top ev ?_
      clear ev
      refine lv_bipush (v := (96 : Int32)) hx hb dX12_isResultValue_51 (by decide) ?_
      refine lv_iload_n hx hb dX12_isResultValue_53 rfl (lv_at hl 2 rfl) ?_
      refine lv_imul hx hb dX12_isResultValue_54 ?_
      obtain ⟨v3, ev, hf⟩ := m_bndE hf
      refine m_top ev ?_
      clear ev
      refine lv_iadd hx hb dX12_isResultValue_55 ?_
      obtain ⟨v4, ev, hf⟩ := m_bndE hf
      refine m_top ev ?_
      clear ev
      refine lv_iload hx hb dX12_isResultValue_56 (lv_at hl 5 rfl) ?_
      refine lv_iadd hx hb dX12_isResultValue_58 ?_
      obtain ⟨v5, ev, hf⟩ := m_bndE hf
      refine m_top ev ?_
      clear ev
      obtain ⟨cd, hf⟩ := m_chkE hf
      refine m_cald X hM 22 18 1536 rfl cd dX12_isResultValue_59 ?_
      clear cd
      obtain ⟨v6, ev, hf⟩ := m_bndE hf
      refine m_top ev ?_
      clear ev
      refine lv_iload_n hx hb dX12_isResultValue_60 rfl (lv_at hl 3 rfl) ?_
      refine lv_iload hx hb dX12_isResultValue_61 (lv_at hl 5 rfl) ?_
      obtain ⟨o7, ho, hf⟩ := m_clE hf
      refine m_callSi X hM (c_resultSign ho) gX12_isResultValue_X12_resultSign rfl ⟨rfl, rfl⟩ hd_resultSign ⟨Nat.le_of_ble_eq_true rfl, Nat.le_of_ble_eq_true rfl⟩ rfl hl.1 rfl (Nat.le_of_ble_eq_true rfl) dX12_isResultValue_63 (fun H locs hM => ?_)
      clear ho
      refine lv_icmp_ne (tgt := 73) hx hb dX12_isResultValue_66 (by decide) (fun cc1 => ?_) (fun cc1 => ?_)
      · replace hf := m_ifF hf cc1
        refine lv_iconst (v := (0 : Int32)) hx hb dX12_isResultValue_73 (by decide) ?_
        exact w_isResultValue_74 X hret hself28 hf hM (lv_sub hl [0, 1, 2, 3, 5] rfl)
      · replace hf := m_ifT hf cc1
        refine lv_iconst (v := (1 : Int32)) hx hb dX12_isResultValue_69 (by decide) ?_
        refine lv_goto (tgt := 74) hx hb dX12_isResultValue_70 (by decide) ?_
        exact w_isResultValue_74 X hret hself28 hf hM (lv_sub hl [0, 1, 2, 3, 5] rfl)
noncomputable def f_isResultValue_28 : Nat → Int32 → Int32 → Int32 → Int32 → Int32 → (Nat → Int32) → (Nat → Nat → Int32) → Option (Int32 × MS)
  | 0 => fun _ _ _ _ _ _ _ => none
  | n + 1 => f_isResultValue_28s (f_isResultValue_28 n)
theorem w_isResultValue_28 {p : Program} {l : Launch} {e : Env} {s : State} {m : MethodId} {args : Array Value} {below : List Frame} {meth : Method} {c : Code} {Q : State → Prop} {D : va_G} {cy ci : ClassId} {h : Nat → Nat} {A0 : Nat → Prop} {o : Int32 × MS} (X : CallFix p m c cX12_isResultValue 6 s args wsX12_isResultValue RX12) (hret : mRi p l e ({ frames := 1, cells := 0, slots := 0, locals := 21 } : Room) s m args below meth c Q cX12_isResultValue D cy ci h A0 .boolean o) (n : Nat) : ∀ (x1 : Int32) (x2 : Int32) (x3 : Int32) (x4 : Int32) (x5 : Int32) (I : Nat → Int32) (A : Nat → Nat → Int32) (H : Heap) (locs : List Loc) (ls : Array Slot), f_isResultValue_28 n x1 x2 x3 x4 x5 I A = some o → mH D cy ci h A0 s H locs I A → lv_has ls 6 [(0, .ref (h 0)), (1, .int x1), (2, .int x2), (3, .int x3), (4, .int x4), (5, .int x5)] → W p l e ({ frames := 1, cells := 0, slots := 0, locals := 21 } : Room) s m args below meth c H locs 0 0 Q (F0 m 28 ls []) := by
  induction n with
  | zero => intro x1 x2 x3 x4 x5 I A H locs ls hf; cases hf
  | succ n ih => intro x1 x2 x3 x4 x5 I A H locs ls hf hM hl; exact ws_isResultValue_28 X hret (self28 := f_isResultValue_28 n) ih hf hM hl
noncomputable def f_isResultValue_23 (x1 : Int32) (x2 : Int32) (x3 : Int32) (t0 : Int32) (I : Nat → Int32) (A : Nat → Nat → Int32) : Option (Int32 × MS) :=
  f_isResultValue_28 mFuel x1 x2 x3 t0 (0 : Int32) I A

set_option maxRecDepth 100000 in
set_option maxHeartbeats 4000000 in
theorem w_isResultValue_23 {p : Program} {l : Launch} {e : Env} {s : State} {m : MethodId} {args : Array Value} {below : List Frame} {meth : Method} {c : Code} {Q : State → Prop} {D : va_G} {cy ci : ClassId} {h : Nat → Nat} {A0 : Nat → Prop} {o : Int32 × MS} (X : CallFix p m c cX12_isResultValue 6 s args wsX12_isResultValue RX12) (hret : mRi p l e ({ frames := 1, cells := 0, slots := 0, locals := 21 } : Room) s m args below meth c Q cX12_isResultValue D cy ci h A0 .boolean o) {x1 : Int32} {x2 : Int32} {x3 : Int32} {t0 : Int32} {I : Nat → Int32} {A : Nat → Nat → Int32} {H : Heap} {locs : List Loc} {ls : Array Slot} (hf : f_isResultValue_23 x1 x2 x3 t0 I A = some o) (hM : mH D cy ci h A0 s H locs I A) (hl : lv_has ls 6 [(0, .ref (h 0)), (1, .int x1), (2, .int x2), (3, .int x3)]) : W p l e ({ frames := 1, cells := 0, slots := 0, locals := 21 } : Room) s m args below meth c H locs 0 0 Q (F0 m 23 ls [.int t0]) := by
  obtain ⟨hx, hb, hml, hown, hts⟩ := id X
  unfold f_isResultValue_23 at hf
  refine lv_istore (lv' := [(4, .int t0), (0, .ref (h 0)), (1, .int x1), (2, .int x2), (3, .int x3)]) hx hb dX12_isResultValue_23 hl (by decide) rfl (fun ls hl => ?_)
  refine lv_iconst (v := (0 : Int32)) hx hb dX12_isResultValue_25 (by decide) ?_
  refine lv_istore (lv' := [(5, .int (0 : Int32)), (4, .int t0), (0, .ref (h 0)), (1, .int x1), (2, .int x2), (3, .int x3)]) hx hb dX12_isResultValue_26 hl (by decide) rfl (fun ls hl => ?_)
  exact w_isResultValue_28 X hret _ _ _ _ _ _ _ _ _ _ _ hf hM (lv_sub hl [2, 3, 4, 5, 1, 0] rfl)
noncomputable def f_isResultValue_0 (x1 : Int32) (x2 : Int32) (x3 : Int32) (I : Nat → Int32) (A : Nat → Nat → Int32) : Option (Int32 × MS) :=
  m_bnd ((8 : Int32) * x1) (fun v1 =>
  m_bnd (v1 + x2) (fun v2 =>
  m_chk (¬ (v2 < 0 ∨ 16 ≤ (v2).toNatClampNeg)) (
  m_bnd (A 21 (v2).toNatClampNeg) (fun v3 =>
  m_cl (f_resultSize x3 I A) (fun r4 Ic4 Ac4 =>
  m_if (v3 = r4) (
  f_isResultValue_23 x1 x2 x3 (1 : Int32) Ic4 Ac4
  ) (
  f_isResultValue_23 x1 x2 x3 (0 : Int32) Ic4 Ac4
  ))))))

set_option maxRecDepth 100000 in
set_option maxHeartbeats 4000000 in
theorem w_isResultValue_0 {p : Program} {l : Launch} {e : Env} {s : State} {m : MethodId} {args : Array Value} {below : List Frame} {meth : Method} {c : Code} {Q : State → Prop} {D : va_G} {cy ci : ClassId} {h : Nat → Nat} {A0 : Nat → Prop} {o : Int32 × MS} (X : CallFix p m c cX12_isResultValue 6 s args wsX12_isResultValue RX12) (hret : mRi p l e ({ frames := 1, cells := 0, slots := 0, locals := 21 } : Room) s m args below meth c Q cX12_isResultValue D cy ci h A0 .boolean o) {x1 : Int32} {x2 : Int32} {x3 : Int32} {I : Nat → Int32} {A : Nat → Nat → Int32} {H : Heap} {locs : List Loc} {ls : Array Slot} (hf : f_isResultValue_0 x1 x2 x3 I A = some o) (hM : mH D cy ci h A0 s H locs I A) (hl : lv_has ls 6 [(0, .ref (h 0)), (1, .int x1), (2, .int x2), (3, .int x3)]) : W p l e ({ frames := 1, cells := 0, slots := 0, locals := 21 } : Room) s m args below meth c H locs 0 0 Q (F0 m 0 ls []) := by
  obtain ⟨hx, hb, hml, hown, hts⟩ := id X
  unfold f_isResultValue_0 at hf
  refine lv_aload_n hx hb dX12_isResultValue_0 rfl (lv_at hl 0 rfl) ?_
  refine m_get (v := .ref (h 21)) X hw_isResultValue hM 21 (by decide) fl_isResultValue_21 rfl dX12_isResultValue_1 ?_
  refine lv_bipush (v := (8 : Int32)) hx hb dX12_isResultValue_4 (by decide) ?_
  refine lv_iload_n hx hb dX12_isResultValue_6 rfl (lv_at hl 1 rfl) ?_
  refine lv_imul hx hb dX12_isResultValue_7 ?_
  obtain ⟨v1, ev, hf⟩ := m_bndE hf
  refine m_top ev ?_
  clear ev
  refine lv_iload_n hx hb dX12_isResultValue_8 rfl (lv_at hl 2 rfl) ?_
  refine lv_iadd hx hb dX12_isResultValue_9 ?_
  obtain ⟨v2, ev, hf⟩ := m_bndE hf
  refine m_top ev ?_
  clear ev
  obtain ⟨cd, hf⟩ := m_chkE hf
  refine m_iald X hM 21 17 16 rfl cd dX12_isResultValue_10 ?_
  clear cd
  obtain ⟨v3, ev, hf⟩ := m_bndE hf
  refine m_top ev ?_
  clear ev
  refine lv_iload_n hx hb dX12_isResultValue_11 rfl (lv_at hl 3 rfl) ?_
  obtain ⟨o4, ho, hf⟩ := m_clE hf
  refine m_callSi X hM (c_resultSize ho) gX12_isResultValue_X12_resultSize rfl ⟨rfl, rfl⟩ hd_resultSize ⟨Nat.le_of_ble_eq_true rfl, Nat.le_of_ble_eq_true rfl⟩ rfl hl.1 rfl (Nat.le_of_ble_eq_true rfl) dX12_isResultValue_12 (fun H locs hM => ?_)
  clear ho
  refine lv_icmp_ne (tgt := 22) hx hb dX12_isResultValue_15 (by decide) (fun cc1 => ?_) (fun cc1 => ?_)
  · replace hf := m_ifF hf cc1
    refine lv_iconst (v := (0 : Int32)) hx hb dX12_isResultValue_22 (by decide) ?_
    exact w_isResultValue_23 X hret hf hM (lv_sub hl [0, 1, 2, 3] rfl)
  · replace hf := m_ifT hf cc1
    refine lv_iconst (v := (1 : Int32)) hx hb dX12_isResultValue_18 (by decide) ?_
    refine lv_goto (tgt := 23) hx hb dX12_isResultValue_19 (by decide) ?_
    exact w_isResultValue_23 X hret hf hM (lv_sub hl [0, 1, 2, 3] rfl)
noncomputable def f_isResultValue (x1 : Int32) (x2 : Int32) (x3 : Int32) (I : Nat → Int32) (A : Nat → Nat → Int32) : Option (Int32 × MS) := f_isResultValue_0 x1 x2 x3 I A
theorem c_isResultValue {l : Launch} {D : va_G} {cy ci : ClassId} {h : Nat → Nat} {x1 : Int32} {x2 : Int32} {x3 : Int32} {I : Nat → Int32} {A : Nat → Nat → Int32} {o : Int32 × MS} (hf : f_isResultValue x1 x2 x3 I A = some o) : mMi l yX12_isResultValue wsX12_isResultValue ({ frames := 1, cells := 0, slots := 0, locals := 21 } : Room) [.ref (h 0), .int x1, .int x2, .int x3] D cy ci h I A o :=
  m_entryI (cc := cX12_isResultValue) (maxL := 6) (by decide) rfl rfl (Nat.le_of_ble_eq_true rfl) (fun p e s m args below meth c A0 Q H locs ls X hret hM hl => w_isResultValue_0 X hret hf hM (lv_sub hl [0, 1, 2, 3] rfl))
theorem hw_readGame : ∀ w ∈ wsX120, w ∈ wsX12_readGame := by decide +kernel
theorem fl_readGame_1 : Cond.fieldLink RX12 270 "MoveTextsModel" "typed" "I" ∈ wsX12_readGame := by decide +kernel
theorem fl_readGame_18 : Cond.fieldLink RX12 52 "MoveTextsModel" "tagCount" "[I" ∈ wsX12_readGame := by decide +kernel
theorem fl_readGame_23 : Cond.fieldLink RX12 67 "MoveTextsModel" "results" "[I" ∈ wsX12_readGame := by decide +kernel
theorem fl_readGame_37 : Cond.fieldLink RX12 267 "MoveTextsModel" "at" "I" ∈ wsX12_readGame := by decide +kernel
theorem hd_readGame : yX12_readGame.cls = RX12 ∧ yX12_readGame.cls ≠ "java/lang/invoke/MethodHandle" ∧ yX12_readGame.cls ≠ "java/lang/invoke/VarHandle" ∧ (parseMethodDescriptor yX12_readGame.desc).map (fun d => d.parameters.length) = some 1 := by decide +kernel
noncomputable def f_readGame_185 (t0 : Int32) (I : Nat → Int32) (A : Nat → Nat → Int32) : Option (Int32 × MS) :=
  some (t0, (I, A))

set_option maxRecDepth 100000 in
set_option maxHeartbeats 4000000 in
theorem w_readGame_185 {p : Program} {l : Launch} {e : Env} {s : State} {m : MethodId} {args : Array Value} {below : List Frame} {meth : Method} {c : Code} {Q : State → Prop} {D : va_G} {cy ci : ClassId} {h : Nat → Nat} {A0 : Nat → Prop} {o : Int32 × MS} (X : CallFix p m c cX12_readGame 5 s args wsX12_readGame RX12) (hret : mRi p l e ({ frames := 18, cells := 0, slots := 0, locals := 477 } : Room) s m args below meth c Q cX12_readGame D cy ci h A0 .int o) {t0 : Int32} {I : Nat → Int32} {A : Nat → Nat → Int32} {H : Heap} {locs : List Loc} {ls : Array Slot} (hf : f_readGame_185 t0 I A = some o) (hM : mH D cy ci h A0 s H locs I A) (hl : lv_has ls 5 []) : W p l e ({ frames := 18, cells := 0, slots := 0, locals := 477 } : Room) s m args below meth c H locs 0 0 Q (F0 m 185 ls [.int t0]) := by
  obtain ⟨hx, hb, hml, hown, hts⟩ := id X
  unfold f_readGame_185 at hf
  cases hf
  exact hret H locs _ ls hM rfl dX12_readGame_185
noncomputable def f_readGame_154 (t0 : Int32) (t1 : Int32) (I : Nat → Int32) (A : Nat → Nat → Int32) : Option (Int32 × MS) :=
  m_bnd (t1 + t0) (fun v1 =>
  m_bnd (upd I 37 v1) (fun I2 =>
  m_cl (f_blanks  I2 A) (fun r3 Ic3 Ac3 =>
  m_if ((Ic3 1) ≤ (Ic3 37)) (
  f_readGame_185 (0 : Int32) Ic3 Ac3
  ) (
  m_cl (f_fault (1 : Int32) (Ic3 37) Ic3 Ac3) (fun r4 Ic4 Ac4 =>
  f_readGame_185 r4 Ic4 Ac4)
  ))))

set_option maxRecDepth 100000 in
set_option maxHeartbeats 4000000 in
theorem w_readGame_154 {p : Program} {l : Launch} {e : Env} {s : State} {m : MethodId} {args : Array Value} {below : List Frame} {meth : Method} {c : Code} {Q : State → Prop} {D : va_G} {cy ci : ClassId} {h : Nat → Nat} {A0 : Nat → Prop} {o : Int32 × MS} (X : CallFix p m c cX12_readGame 5 s args wsX12_readGame RX12) (hret : mRi p l e ({ frames := 18, cells := 0, slots := 0, locals := 477 } : Room) s m args below meth c Q cX12_readGame D cy ci h A0 .int o) {t0 : Int32} {t1 : Int32} {I : Nat → Int32} {A : Nat → Nat → Int32} {H : Heap} {locs : List Loc} {ls : Array Slot} (hf : f_readGame_154 t0 t1 I A = some o) (hM : mH D cy ci h A0 s H locs I A) (hl : lv_has ls 5 [(0, .ref (h 0))]) : W p l e ({ frames := 18, cells := 0, slots := 0, locals := 477 } : Room) s m args below meth c H locs 0 0 Q (F0 m 154 ls [.int t0, .int t1, .ref (h 0)]) := by
  obtain ⟨hx, hb, hml, hown, hts⟩ := id X
  unfold f_readGame_154 at hf
  refine lv_iadd hx hb dX12_readGame_154 ?_
  obtain ⟨v1, ev, hf⟩ := m_bndE hf
  refine m_top ev ?_
  clear ev
  refine m_put X hw_readGame hM 37 (by decide) fl_readGame_37 mi_37 rfl (tyX12_ok 37 (by decide)) dX12_readGame_155 (fun H locs hM => ?_)
  obtain ⟨I2, ev, hf⟩ := m_bndE hf
  replace hM := m_hI hM ev
  clear ev
  refine lv_aload_n hx hb dX12_readGame_158 rfl (lv_at hl 0 rfl) ?_
  obtain ⟨o3, ho, hf⟩ := m_clE hf
  refine m_callVv X hM (c_blanks ho) gX12_readGame_X12_blanks rfl ⟨rfl, rfl⟩ hd_blanks ⟨Nat.le_of_ble_eq_true rfl, Nat.le_of_ble_eq_true rfl⟩ rfl hl.1 rfl (Nat.le_of_ble_eq_true rfl) dX12_readGame_159 (fun H locs hM => ?_)
  clear ho
  refine lv_aload_n hx hb dX12_readGame_162 rfl (lv_at hl 0 rfl) ?_
  refine m_get (v := .int (o3.2.1 37)) X hw_readGame hM 37 (by decide) fl_readGame_37 rfl dX12_readGame_163 ?_
  refine lv_aload_n hx hb dX12_readGame_166 rfl (lv_at hl 0 rfl) ?_
  refine m_get (v := .int (o3.2.1 1)) X hw_readGame hM 1 (by decide) fl_readGame_1 rfl dX12_readGame_167 ?_
  refine lv_icmp_ge (tgt := 184) hx hb dX12_readGame_170 (by decide) (fun cc1 => ?_) (fun cc1 => ?_)
  · replace hf := m_ifT hf cc1
    refine lv_iconst (v := (0 : Int32)) hx hb dX12_readGame_184 (by decide) ?_
    exact w_readGame_185 X hret hf hM (lv_sub hl [] rfl)
  · replace hf := m_ifF hf cc1
    refine lv_iconst (v := (1 : Int32)) hx hb dX12_readGame_173 (by decide) ?_
    refine lv_aload_n hx hb dX12_readGame_174 rfl (lv_at hl 0 rfl) ?_
    refine m_get (v := .int (o3.2.1 37)) X hw_readGame hM 37 (by decide) fl_readGame_37 rfl dX12_readGame_175 ?_
    obtain ⟨o4, ho, hf⟩ := m_clE hf
    refine m_callSi X hM (c_fault ho) gX12_readGame_X12_fault rfl ⟨rfl, rfl⟩ hd_fault ⟨Nat.le_of_ble_eq_true rfl, Nat.le_of_ble_eq_true rfl⟩ rfl hl.1 rfl (Nat.le_of_ble_eq_true rfl) dX12_readGame_178 (fun H locs hM => ?_)
    clear ho
    refine lv_goto (tgt := 185) hx hb dX12_readGame_181 (by decide) ?_
    exact w_readGame_185 X hret hf hM (lv_sub hl [] rfl)
noncomputable def f_readGame_117 (self74 : Int32 → Int32 → Int32 → (Nat → Int32) → (Nat → Nat → Int32) → Option (Int32 × MS)) (x1 : Int32) (x3 : Int32) (x4 : Int32) (I : Nat → Int32) (A : Nat → Nat → Int32) : Option (Int32 × MS) :=
  m_bnd (x4 + (1 : Int32)) (fun v1 =>
  self74 x1 x3 v1 I A)

set_option maxRecDepth 100000 in
set_option maxHeartbeats 4000000 in
theorem w_readGame_117 {p : Program} {l : Launch} {e : Env} {s : State} {m : MethodId} {args : Array Value} {below : List Frame} {meth : Method} {c : Code} {Q : State → Prop} {D : va_G} {cy ci : ClassId} {h : Nat → Nat} {A0 : Nat → Prop} {o : Int32 × MS} (X : CallFix p m c cX12_readGame 5 s args wsX12_readGame RX12) (hret : mRi p l e ({ frames := 18, cells := 0, slots := 0, locals := 477 } : Room) s m args below meth c Q cX12_readGame D cy ci h A0 .int o) {self74 : Int32 → Int32 → Int32 → (Nat → Int32) → (Nat → Nat → Int32) → Option (Int32 × MS)} (hself74 : ∀ (x1 : Int32) (x3 : Int32) (x4 : Int32) (I : Nat → Int32) (A : Nat → Nat → Int32) (H : Heap) (locs : List Loc) (ls : Array Slot), self74 x1 x3 x4 I A = some o → mH D cy ci h A0 s H locs I A → lv_has ls 5 [(0, .ref (h 0)), (1, .int x1), (3, .int x3), (4, .int x4)] → W p l e ({ frames := 18, cells := 0, slots := 0, locals := 477 } : Room) s m args below meth c H locs 0 0 Q (F0 m 74 ls [])) {x1 : Int32} {x3 : Int32} {x4 : Int32} {I : Nat → Int32} {A : Nat → Nat → Int32} {H : Heap} {locs : List Loc} {ls : Array Slot} (hf : f_readGame_117 self74 x1 x3 x4 I A = some o) (hM : mH D cy ci h A0 s H locs I A) (hl : lv_has ls 5 [(0, .ref (h 0)), (1, .int x1), (3, .int x3), (4, .int x4)]) : W p l e ({ frames := 18, cells := 0, slots := 0, locals := 477 } : Room) s m args below meth c H locs 0 0 Q (F0 m 117 ls []) := by
  obtain ⟨hx, hb, hml, hown, hts⟩ := id X
  unfold f_readGame_117 at hf
  obtain ⟨v1, ev, hf⟩ := m_bndE hf
  refine lv_iinc (v := v1) (lv' := [(4, .int v1), (0, .ref (h 0)), (1, .int x1), (3, .int x3)]) hx hb dX12_readGame_117 hl (k := 3) rfl (by rw [ev]; rfl) (by decide) rfl (fun ls hl => ?_)
  clear ev
  refine lv_goto (tgt := 74) hx hb dX12_readGame_120 (by decide) ?_
  exact hself74 _ _ _ _ _ _ _ _ hf hM (lv_sub hl [1, 2, 3, 0] rfl)
noncomputable def f_readGame_74s (self74 : Int32 → Int32 → Int32 → (Nat → Int32) → (Nat → Nat → Int32) → Option (Int32 × MS)) (x1 : Int32) (x3 : Int32) (x4 : Int32) (I : Nat → Int32) (A : Nat → Nat → Int32) : Option (Int32 × MS) :=
  m_chk (¬ (x1 < 0 ∨ 2 ≤ (x1).toNatClampNeg)) (
  m_bnd (A 18 (x1).toNatClampNeg) (fun v1 =>
  m_if (v1 ≤ x4) (
  m_chk (¬ (x1 < 0 ∨ 2 ≤ (x1).toNatClampNeg)) (
  m_bnd (va_up A 23 (upd (A 23) (x1).toNatClampNeg x3)) (fun A2 =>
  m_if (x3 = 0) (
  f_readGame_154 (1 : Int32) (I 37) I A2
  ) (
  m_if (x3 = (3 : Int32)) (
  f_readGame_154 (7 : Int32) (I 37) I A2
  ) (
  f_readGame_154 (3 : Int32) (I 37) I A2
  )
  )))
  ) (
  m_cl (f_isTag x4 x1 (1 : Int32) I A) (fun r3 Ic3 Ac3 =>
  m_if (r3 = 0) (
  f_readGame_117 self74 x1 x3 x4 Ic3 Ac3
  ) (
  m_cl (f_isResultValue x1 x4 x3 Ic3 Ac3) (fun r4 Ic4 Ac4 =>
  m_if (r4 = 0) (
  m_cl (f_fault (9 : Int32) (Ic4 37) Ic4 Ac4) (fun r5 Ic5 Ac5 =>
  some (r5, (Ic5, Ac5)))
  ) (
  f_readGame_117 self74 x1 x3 x4 Ic4 Ac4
  ))
  ))
  )))

set_option maxRecDepth 100000 in
set_option maxHeartbeats 4000000 in
theorem ws_readGame_74 {p : Program} {l : Launch} {e : Env} {s : State} {m : MethodId} {args : Array Value} {below : List Frame} {meth : Method} {c : Code} {Q : State → Prop} {D : va_G} {cy ci : ClassId} {h : Nat → Nat} {A0 : Nat → Prop} {o : Int32 × MS} (X : CallFix p m c cX12_readGame 5 s args wsX12_readGame RX12) (hret : mRi p l e ({ frames := 18, cells := 0, slots := 0, locals := 477 } : Room) s m args below meth c Q cX12_readGame D cy ci h A0 .int o) {self74 : Int32 → Int32 → Int32 → (Nat → Int32) → (Nat → Nat → Int32) → Option (Int32 × MS)} (hself74 : ∀ (x1 : Int32) (x3 : Int32) (x4 : Int32) (I : Nat → Int32) (A : Nat → Nat → Int32) (H : Heap) (locs : List Loc) (ls : Array Slot), self74 x1 x3 x4 I A = some o → mH D cy ci h A0 s H locs I A → lv_has ls 5 [(0, .ref (h 0)), (1, .int x1), (3, .int x3), (4, .int x4)] → W p l e ({ frames := 18, cells := 0, slots := 0, locals := 477 } : Room) s m args below meth c H locs 0 0 Q (F0 m 74 ls [])) {x1 : Int32} {x3 : Int32} {x4 : Int32} {I : Nat → Int32} {A : Nat → Nat → Int32} {H : Heap} {locs : List Loc} {ls : Array Slot} (hf : f_readGame_74s self74 x1 x3 x4 I A = some o) (hM : mH D cy ci h A0 s H locs I A) (hl : lv_has ls 5 [(0, .ref (h 0)), (1, .int x1), (3, .int x3), (4, .int x4)]) : W p l e ({ frames := 18, cells := 0, slots := 0, locals := 477 } : Room) s m args below meth c H locs 0 0 Q (F0 m 74 ls []) := by
  obtain ⟨hx, hb, hml, hown, hts⟩ := id X
  unfold f_readGame_74s at hf
  refine lv_iload hx hb dX12_readGame_74 (lv_at hl 3 rfl) ?_
  refine lv_aload_n hx hb dX12_readGame_76 rfl (lv_at hl 0 rfl) ?_
  refine m_get (v := .ref (h 18)) X hw_readGame hM 18 (by decide) fl_readGame_18 rfl dX12_readGame_77 ?_
  refine lv_iload_n hx hb dX12_readGame_80 rfl (lv_at hl 1 rfl) ?_
  obtain ⟨cd, hf⟩ := m_chkE hf
  refine m_iald X hM 18 14 2 rfl cd dX12_readGame_81 ?_
  clear cd
  obtain ⟨v1, ev, hf⟩ := m_bndE hf
  refine m_top ev ?_
  clear ev
  refine lv_icmp_ge (tgt := 123) hx hb dX12_readGame_82 (by decide) (fun cc1 => ?_) (fun cc1 => ?_)
  · replace hf := m_ifT hf cc1
    refine lv_aload_n hx hb dX12_readGame_123 rfl (lv_at hl 0 rfl) ?_
    refine m_get (v := .ref (h 23)) X hw_readGame hM 23 (by decide) fl_readGame_23 rfl dX12_readGame_124 ?_
    refine lv_iload_n hx hb dX12_readGame_127 rfl (lv_at hl 1 rfl) ?_
    refine lv_iload_n hx hb dX12_readGame_128 rfl (lv_at hl 2 rfl) ?_
    obtain ⟨cd, hf⟩ := m_chkE hf
    refine m_iast X hM 23 19 2 rfl ma_23 cd dX12_readGame_129 (fun H locs hM => ?_)
    clear cd
    obtain ⟨A2, ev, hf⟩ := m_bndE hf
    replace hM := m_hA hM ev
    clear ev
    refine lv_aload_n hx hb dX12_readGame_130 rfl (lv_at hl 0 rfl) ?_
    refine lv_aload_n hx hb dX12_readGame_131 rfl (lv_at hl 0 rfl) ?_
    refine m_get (v := .int (I 37)) X hw_readGame hM 37 (by decide) fl_readGame_37 rfl dX12_readGame_132 ?_
    refine lv_iload_n hx hb dX12_readGame_135 rfl (lv_at hl 2 rfl) ?_
    refine lv_if_ne (tgt := 143) hx hb dX12_readGame_136 (by decide) (fun cc1 => ?_) (fun cc1 => ?_)
    · replace hf := m_ifF hf cc1
      refine lv_iload_n hx hb dX12_readGame_143 rfl (lv_at hl 2 rfl) ?_
      refine lv_iconst (v := (3 : Int32)) hx hb dX12_readGame_144 (by decide) ?_
      refine lv_icmp_ne (tgt := 153) hx hb dX12_readGame_145 (by decide) (fun cc1 => ?_) (fun cc1 => ?_)
      · replace hf := m_ifF hf cc1
        refine lv_iconst (v := (3 : Int32)) hx hb dX12_readGame_153 (by decide) ?_
        exact w_readGame_154 X hret hf hM (lv_sub hl [0] rfl)
      · replace hf := m_ifT hf cc1
        refine lv_bipush (v := (7 : Int32)) hx hb dX12_readGame_148 (by decide) ?_
        refine lv_goto (tgt := 154) hx hb dX12_readGame_150 (by decide) ?_
        exact w_readGame_154 X hret hf hM (lv_sub hl [0] rfl)
    · replace hf := m_ifT hf cc1
      refine lv_iconst (v := (1 : Int32)) hx hb dX12_readGame_139 (by decide) ?_
      refine lv_goto (tgt := 154) hx hb dX12_readGame_140 (by decide) ?_
      exact w_readGame_154 X hret hf hM (lv_sub hl [0] rfl)
  · replace hf := m_ifF hf cc1
    refine lv_aload_n hx hb dX12_readGame_85 rfl (lv_at hl 0 rfl) ?_
    refine lv_iload hx hb dX12_readGame_86 (lv_at hl 3 rfl) ?_
    refine lv_iload_n hx hb dX12_readGame_88 rfl (lv_at hl 1 rfl) ?_
    refine lv_iconst (v := (1 : Int32)) hx hb dX12_readGame_89 (by decide) ?_
    obtain ⟨o3, ho, hf⟩ := m_clE hf
    refine m_callVi X hM (c_isTag ho) gX12_readGame_X12_isTag rfl ⟨rfl, rfl⟩ hd_isTag ⟨Nat.le_of_ble_eq_true rfl, Nat.le_of_ble_eq_true rfl⟩ rfl hl.1 rfl (Nat.le_of_ble_eq_true rfl) dX12_readGame_90 (fun H locs hM => ?_)
    clear ho
    refine lv_if_eq (tgt := 117) hx hb dX12_readGame_93 (by decide) (fun cc1 => ?_) (fun cc1 => ?_)
    · replace hf := m_ifT hf cc1
      exact w_readGame_117 X hret hself74 hf hM (lv_sub hl [0, 1, 2, 3] rfl)
    · replace hf := m_ifF hf cc1
      refine lv_aload_n hx hb dX12_readGame_96 rfl (lv_at hl 0 rfl) ?_
      refine lv_iload_n hx hb dX12_readGame_97 rfl (lv_at hl 1 rfl) ?_
      refine lv_iload hx hb dX12_readGame_98 (lv_at hl 3 rfl) ?_
      refine lv_iload_n hx hb dX12_readGame_100 rfl (lv_at hl 2 rfl) ?_
      obtain ⟨o4, ho, hf⟩ := m_clE hf
      refine m_callVi X hM (c_isResultValue ho) gX12_readGame_X12_isResultValue rfl ⟨rfl, rfl⟩ hd_isResultValue ⟨Nat.le_of_ble_eq_true rfl, Nat.le_of_ble_eq_true rfl⟩ rfl hl.1 rfl (Nat.le_of_ble_eq_true rfl) dX12_readGame_101 (fun H locs hM => ?_)
      clear ho
      refine lv_if_ne (tgt := 117) hx hb dX12_readGame_104 (by decide) (fun cc1 => ?_) (fun cc1 => ?_)
      · replace hf := m_ifF hf cc1
        exact w_readGame_117 X hret hself74 hf hM (lv_sub hl [0, 1, 2, 3] rfl)
      · replace hf := m_ifT hf cc1
        refine lv_bipush (v := (9 : Int32)) hx hb dX12_readGame_107 (by decide) ?_
        refine lv_aload_n hx hb dX12_readGame_109 rfl (lv_at hl 0 rfl) ?_
        refine m_get (v := .int (o4.2.1 37)) X hw_readGame hM 37 (by decide) fl_readGame_37 rfl dX12_readGame_110 ?_
        obtain ⟨o5, ho, hf⟩ := m_clE hf
        refine m_callSi X hM (c_fault ho) gX12_readGame_X12_fault rfl ⟨rfl, rfl⟩ hd_fault ⟨Nat.le_of_ble_eq_true rfl, Nat.le_of_ble_eq_true rfl⟩ rfl hl.1 rfl (Nat.le_of_ble_eq_true rfl) dX12_readGame_113 (fun H locs hM => ?_)
        clear ho
        cases hf
        exact hret H locs _ ls hM rfl dX12_readGame_116
noncomputable def f_readGame_74 : Nat → Int32 → Int32 → Int32 → (Nat → Int32) → (Nat → Nat → Int32) → Option (Int32 × MS)
  | 0 => fun _ _ _ _ _ => none
  | n + 1 => f_readGame_74s (f_readGame_74 n)
theorem w_readGame_74 {p : Program} {l : Launch} {e : Env} {s : State} {m : MethodId} {args : Array Value} {below : List Frame} {meth : Method} {c : Code} {Q : State → Prop} {D : va_G} {cy ci : ClassId} {h : Nat → Nat} {A0 : Nat → Prop} {o : Int32 × MS} (X : CallFix p m c cX12_readGame 5 s args wsX12_readGame RX12) (hret : mRi p l e ({ frames := 18, cells := 0, slots := 0, locals := 477 } : Room) s m args below meth c Q cX12_readGame D cy ci h A0 .int o) (n : Nat) : ∀ (x1 : Int32) (x3 : Int32) (x4 : Int32) (I : Nat → Int32) (A : Nat → Nat → Int32) (H : Heap) (locs : List Loc) (ls : Array Slot), f_readGame_74 n x1 x3 x4 I A = some o → mH D cy ci h A0 s H locs I A → lv_has ls 5 [(0, .ref (h 0)), (1, .int x1), (3, .int x3), (4, .int x4)] → W p l e ({ frames := 18, cells := 0, slots := 0, locals := 477 } : Room) s m args below meth c H locs 0 0 Q (F0 m 74 ls []) := by
  induction n with
  | zero => intro x1 x3 x4 I A H locs ls hf; cases hf
  | succ n ih => intro x1 x3 x4 I A H locs ls hf hM hl; exact ws_readGame_74 X hret (self74 := f_readGame_74 n) ih hf hM hl
noncomputable def f_readGame_59 (x1 : Int32) (t0 : Int32) (I : Nat → Int32) (A : Nat → Nat → Int32) : Option (Int32 × MS) :=
  m_if (t0 ≤ 0) (
  m_cl (f_resultHere  I A) (fun r1 Ic1 Ac1 =>
  f_readGame_74 mFuel x1 r1 (0 : Int32) Ic1 Ac1)
  ) (
  some (t0, (I, A))
  )

set_option maxRecDepth 100000 in
set_option maxHeartbeats 4000000 in
theorem w_readGame_59 {p : Program} {l : Launch} {e : Env} {s : State} {m : MethodId} {args : Array Value} {below : List Frame} {meth : Method} {c : Code} {Q : State → Prop} {D : va_G} {cy ci : ClassId} {h : Nat → Nat} {A0 : Nat → Prop} {o : Int32 × MS} (X : CallFix p m c cX12_readGame 5 s args wsX12_readGame RX12) (hret : mRi p l e ({ frames := 18, cells := 0, slots := 0, locals := 477 } : Room) s m args below meth c Q cX12_readGame D cy ci h A0 .int o) {x1 : Int32} {t0 : Int32} {I : Nat → Int32} {A : Nat → Nat → Int32} {H : Heap} {locs : List Loc} {ls : Array Slot} (hf : f_readGame_59 x1 t0 I A = some o) (hM : mH D cy ci h A0 s H locs I A) (hl : lv_has ls 5 [(0, .ref (h 0)), (1, .int x1)]) : W p l e ({ frames := 18, cells := 0, slots := 0, locals := 477 } : Room) s m args below meth c H locs 0 0 Q (F0 m 59 ls [.int t0]) := by
  obtain ⟨hx, hb, hml, hown, hts⟩ := id X
  unfold f_readGame_59 at hf
  refine lv_istore_n (lv' := [(2, .int t0), (0, .ref (h 0)), (1, .int x1)]) hx hb dX12_readGame_59 rfl hl (by decide) rfl (fun ls hl => ?_)
  refine lv_iload_n hx hb dX12_readGame_60 rfl (lv_at hl 0 rfl) ?_
  refine lv_if_le (tgt := 66) hx hb dX12_readGame_61 (by decide) (fun cc1 => ?_) (fun cc1 => ?_)
  · replace hf := m_ifT hf cc1
    refine lv_aload_n hx hb dX12_readGame_66 rfl (lv_at hl 1 rfl) ?_
    obtain ⟨o1, ho, hf⟩ := m_clE hf
    refine m_callVi X hM (c_resultHere ho) gX12_readGame_X12_resultHere rfl ⟨rfl, rfl⟩ hd_resultHere ⟨Nat.le_of_ble_eq_true rfl, Nat.le_of_ble_eq_true rfl⟩ rfl hl.1 rfl (Nat.le_of_ble_eq_true rfl) dX12_readGame_67 (fun H locs hM => ?_)
    clear ho
    refine lv_istore_n (lv' := [(3, .int o1.1), (2, .int t0), (0, .ref (h 0)), (1, .int x1)]) hx hb dX12_readGame_70 rfl hl (by decide) rfl (fun ls hl => ?_)
    refine lv_iconst (v := (0 : Int32)) hx hb dX12_readGame_71 (by decide) ?_
    refine lv_istore (lv' := [(4, .int (0 : Int32)), (3, .int o1.1), (2, .int t0), (0, .ref (h 0)), (1, .int x1)]) hx hb dX12_readGame_72 hl (by decide) rfl (fun ls hl => ?_)
    exact w_readGame_74 X hret _ _ _ _ _ _ _ _ _ hf hM (lv_sub hl [3, 4, 1, 0] rfl)
  · replace hf := m_ifF hf cc1
    refine lv_iload_n hx hb dX12_readGame_64 rfl (lv_at hl 0 rfl) ?_
    cases hf
    exact hret H locs _ ls hM rfl dX12_readGame_65
noncomputable def f_readGame_9s (self9 : Int32 → (Nat → Int32) → (Nat → Nat → Int32) → Option (Int32 × MS)) (x1 : Int32) (I : Nat → Int32) (A : Nat → Nat → Int32) : Option (Int32 × MS) :=
  m_cl (f_look  I A) (fun r1 Ic1 Ac1 =>
  m_if (r1 = (91 : Int32)) (
  m_cl (f_readTag x1 Ic1 Ac1) (fun r4 Ic4 Ac4 =>
  m_if (r4 ≤ 0) (
  m_cl (f_blanks  Ic4 Ac4) (fun r5 Ic5 Ac5 =>
  self9 x1 Ic5 Ac5)
  ) (
  some (r4, (Ic4, Ac4))
  ))
  ) (
  m_cl (f_readRemarks x1 (0 : Int32) Ic1 Ac1) (fun r2 Ic2 Ac2 =>
  m_if (r2 ≤ 0) (
  m_cl (f_readLine x1 (0 : Int32) (0 : Int32) Ic2 Ac2) (fun r3 Ic3 Ac3 =>
  f_readGame_59 x1 r3 Ic3 Ac3)
  ) (
  f_readGame_59 x1 r2 Ic2 Ac2
  ))
  ))

set_option maxRecDepth 100000 in
set_option maxHeartbeats 4000000 in
theorem ws_readGame_9 {p : Program} {l : Launch} {e : Env} {s : State} {m : MethodId} {args : Array Value} {below : List Frame} {meth : Method} {c : Code} {Q : State → Prop} {D : va_G} {cy ci : ClassId} {h : Nat → Nat} {A0 : Nat → Prop} {o : Int32 × MS} (X : CallFix p m c cX12_readGame 5 s args wsX12_readGame RX12) (hret : mRi p l e ({ frames := 18, cells := 0, slots := 0, locals := 477 } : Room) s m args below meth c Q cX12_readGame D cy ci h A0 .int o) {self9 : Int32 → (Nat → Int32) → (Nat → Nat → Int32) → Option (Int32 × MS)} (hself9 : ∀ (x1 : Int32) (I : Nat → Int32) (A : Nat → Nat → Int32) (H : Heap) (locs : List Loc) (ls : Array Slot), self9 x1 I A = some o → mH D cy ci h A0 s H locs I A → lv_has ls 5 [(0, .ref (h 0)), (1, .int x1)] → W p l e ({ frames := 18, cells := 0, slots := 0, locals := 477 } : Room) s m args below meth c H locs 0 0 Q (F0 m 9 ls [])) {x1 : Int32} {I : Nat → Int32} {A : Nat → Nat → Int32} {H : Heap} {locs : List Loc} {ls : Array Slot} (hf : f_readGame_9s self9 x1 I A = some o) (hM : mH D cy ci h A0 s H locs I A) (hl : lv_has ls 5 [(0, .ref (h 0)), (1, .int x1)]) : W p l e ({ frames := 18, cells := 0, slots := 0, locals := 477 } : Room) s m args below meth c H locs 0 0 Q (F0 m 9 ls []) := by
  obtain ⟨hx, hb, hml, hown, hts⟩ := id X
  unfold f_readGame_9s at hf
  refine lv_aload_n hx hb dX12_readGame_9 rfl (lv_at hl 0 rfl) ?_
  obtain ⟨o1, ho, hf⟩ := m_clE hf
  refine m_callVi X hM (c_look ho) gX12_readGame_X12_look rfl ⟨rfl, rfl⟩ hd_look ⟨Nat.le_of_ble_eq_true rfl, Nat.le_of_ble_eq_true rfl⟩ rfl hl.1 rfl (Nat.le_of_ble_eq_true rfl) dX12_readGame_10 (fun H locs hM => ?_)
  clear ho
  refine lv_bipush (v := (91 : Int32)) hx hb dX12_readGame_13 (by decide) ?_
  refine lv_icmp_ne (tgt := 37) hx hb dX12_readGame_15 (by decide) (fun cc1 => ?_) (fun cc1 => ?_)
  · replace hf := m_ifF hf cc1
    refine lv_aload_n hx hb dX12_readGame_37 rfl (lv_at hl 0 rfl) ?_
    refine lv_iload_n hx hb dX12_readGame_38 rfl (lv_at hl 1 rfl) ?_
    refine lv_iconst (v := (0 : Int32)) hx hb dX12_readGame_39 (by decide) ?_
    obtain ⟨o2, ho, hf⟩ := m_clE hf
    refine m_callVi X hM (c_readRemarks ho) gX12_readGame_X12_readRemarks rfl ⟨rfl, rfl⟩ hd_readRemarks ⟨Nat.le_of_ble_eq_true rfl, Nat.le_of_ble_eq_true rfl⟩ rfl hl.1 rfl (Nat.le_of_ble_eq_true rfl) dX12_readGame_40 (fun H locs hM => ?_)
    clear ho
    refine lv_istore_n (lv' := [(2, .int o2.1), (0, .ref (h 0)), (1, .int x1)]) hx hb dX12_readGame_43 rfl hl (by decide) rfl (fun ls hl => ?_)
    refine lv_iload_n hx hb dX12_readGame_44 rfl (lv_at hl 0 rfl) ?_
    refine lv_if_le (tgt := 52) hx hb dX12_readGame_45 (by decide) (fun cc1 => ?_) (fun cc1 => ?_)
    · replace hf := m_ifT hf cc1
      refine lv_aload_n hx hb dX12_readGame_52 rfl (lv_at hl 1 rfl) ?_
      refine lv_iload_n hx hb dX12_readGame_53 rfl (lv_at hl 2 rfl) ?_
      refine lv_iconst (v := (0 : Int32)) hx hb dX12_readGame_54 (by decide) ?_
      refine lv_iconst (v := (0 : Int32)) hx hb dX12_readGame_55 (by decide) ?_
      obtain ⟨o3, ho, hf⟩ := m_clE hf
      refine m_callVi X hM (c_readLine ho) gX12_readGame_X12_readLine rfl ⟨rfl, rfl⟩ hd_readLine ⟨Nat.le_of_ble_eq_true rfl, Nat.le_of_ble_eq_true rfl⟩ rfl hl.1 rfl (Nat.le_of_ble_eq_true rfl) dX12_readGame_56 (fun H locs hM => ?_)
      clear ho
      exact w_readGame_59 X hret hf hM (lv_sub hl [1, 2] rfl)
    · replace hf := m_ifF hf cc1
      refine lv_iload_n hx hb dX12_readGame_48 rfl (lv_at hl 0 rfl) ?_
      refine lv_goto (tgt := 59) hx hb dX12_readGame_49 (by decide) ?_
      exact w_readGame_59 X hret hf hM (lv_sub hl [1, 2] rfl)
  · replace hf := m_ifT hf cc1
    refine lv_aload_n hx hb dX12_readGame_18 rfl (lv_at hl 0 rfl) ?_
    refine lv_iload_n hx hb dX12_readGame_19 rfl (lv_at hl 1 rfl) ?_
    obtain ⟨o4, ho, hf⟩ := m_clE hf
    refine m_callVi X hM (c_readTag ho) gX12_readGame_X12_readTag rfl ⟨rfl, rfl⟩ hd_readTag ⟨Nat.le_of_ble_eq_true rfl, Nat.le_of_ble_eq_true rfl⟩ rfl hl.1 rfl (Nat.le_of_ble_eq_true rfl) dX12_readGame_20 (fun H locs hM => ?_)
    clear ho
    refine lv_istore_n (lv' := [(2, .int o4.1), (0, .ref (h 0)), (1, .int x1)]) hx hb dX12_readGame_23 rfl hl (by decide) rfl (fun ls hl => ?_)
    refine lv_iload_n hx hb dX12_readGame_24 rfl (lv_at hl 0 rfl) ?_
    refine lv_if_le (tgt := 30) hx hb dX12_readGame_25 (by decide) (fun cc1 => ?_) (fun cc1 => ?_)
    · replace hf := m_ifT hf cc1
      refine lv_aload_n hx hb dX12_readGame_30 rfl (lv_at hl 1 rfl) ?_
      obtain ⟨o5, ho, hf⟩ := m_clE hf
      refine m_callVv X hM (c_blanks ho) gX12_readGame_X12_blanks rfl ⟨rfl, rfl⟩ hd_blanks ⟨Nat.le_of_ble_eq_true rfl, Nat.le_of_ble_eq_true rfl⟩ rfl hl.1 rfl (Nat.le_of_ble_eq_true rfl) dX12_readGame_31 (fun H locs hM => ?_)
      clear ho
      refine lv_goto (tgt := 9) hx hb dX12_readGame_34 (by decide) ?_
      exact hself9 _ _ _ _ _ _ hf hM (lv_sub hl [1, 2] rfl)
    · replace hf := m_ifF hf cc1
      refine lv_iload_n hx hb dX12_readGame_28 rfl (lv_at hl 0 rfl) ?_
      cases hf
      exact hret H locs _ ls hM rfl dX12_readGame_29
noncomputable def f_readGame_9 : Nat → Int32 → (Nat → Int32) → (Nat → Nat → Int32) → Option (Int32 × MS)
  | 0 => fun _ _ _ => none
  | n + 1 => f_readGame_9s (f_readGame_9 n)
theorem w_readGame_9 {p : Program} {l : Launch} {e : Env} {s : State} {m : MethodId} {args : Array Value} {below : List Frame} {meth : Method} {c : Code} {Q : State → Prop} {D : va_G} {cy ci : ClassId} {h : Nat → Nat} {A0 : Nat → Prop} {o : Int32 × MS} (X : CallFix p m c cX12_readGame 5 s args wsX12_readGame RX12) (hret : mRi p l e ({ frames := 18, cells := 0, slots := 0, locals := 477 } : Room) s m args below meth c Q cX12_readGame D cy ci h A0 .int o) (n : Nat) : ∀ (x1 : Int32) (I : Nat → Int32) (A : Nat → Nat → Int32) (H : Heap) (locs : List Loc) (ls : Array Slot), f_readGame_9 n x1 I A = some o → mH D cy ci h A0 s H locs I A → lv_has ls 5 [(0, .ref (h 0)), (1, .int x1)] → W p l e ({ frames := 18, cells := 0, slots := 0, locals := 477 } : Room) s m args below meth c H locs 0 0 Q (F0 m 9 ls []) := by
  induction n with
  | zero => intro x1 I A H locs ls hf; cases hf
  | succ n ih => intro x1 I A H locs ls hf hM hl; exact ws_readGame_9 X hret (self9 := f_readGame_9 n) ih hf hM hl
noncomputable def f_readGame_0 (x1 : Int32) (I : Nat → Int32) (A : Nat → Nat → Int32) : Option (Int32 × MS) :=
  m_bnd (upd I 37 (0 : Int32)) (fun I1 =>
  m_cl (f_blanks  I1 A) (fun r2 Ic2 Ac2 =>
  f_readGame_9 mFuel x1 Ic2 Ac2))

set_option maxRecDepth 100000 in
set_option maxHeartbeats 4000000 in
theorem w_readGame_0 {p : Program} {l : Launch} {e : Env} {s : State} {m : MethodId} {args : Array Value} {below : List Frame} {meth : Method} {c : Code} {Q : State → Prop} {D : va_G} {cy ci : ClassId} {h : Nat → Nat} {A0 : Nat → Prop} {o : Int32 × MS} (X : CallFix p m c cX12_readGame 5 s args wsX12_readGame RX12) (hret : mRi p l e ({ frames := 18, cells := 0, slots := 0, locals := 477 } : Room) s m args below meth c Q cX12_readGame D cy ci h A0 .int o) {x1 : Int32} {I : Nat → Int32} {A : Nat → Nat → Int32} {H : Heap} {locs : List Loc} {ls : Array Slot} (hf : f_readGame_0 x1 I A = some o) (hM : mH D cy ci h A0 s H locs I A) (hl : lv_has ls 5 [(0, .ref (h 0)), (1, .int x1)]) : W p l e ({ frames := 18, cells := 0, slots := 0, locals := 477 } : Room) s m args below meth c H locs 0 0 Q (F0 m 0 ls []) := by
  obtain ⟨hx, hb, hml, hown, hts⟩ := id X
  unfold f_readGame_0 at hf
  refine lv_aload_n hx hb dX12_readGame_0 rfl (lv_at hl 0 rfl) ?_
  refine lv_iconst (v := (0 : Int32)) hx hb dX12_readGame_1 (by decide) ?_
  refine m_put X hw_readGame hM 37 (by decide) fl_readGame_37 mi_37 rfl (tyX12_ok 37 (by decide)) dX12_readGame_2 (fun H locs hM => ?_)
  obtain ⟨I1, ev, hf⟩ := m_bndE hf
  replace hM := m_hI hM ev
  clear ev
  refine lv_aload_n hx hb dX12_readGame_5 rfl (lv_at hl 0 rfl) ?_
  obtain ⟨o2, ho, hf⟩ := m_clE hf
  refine m_callVv X hM (c_blanks ho) gX12_readGame_X12_blanks rfl ⟨rfl, rfl⟩ hd_blanks ⟨Nat.le_of_ble_eq_true rfl, Nat.le_of_ble_eq_true rfl⟩ rfl hl.1 rfl (Nat.le_of_ble_eq_true rfl) dX12_readGame_6 (fun H locs hM => ?_)
  clear ho
  exact w_readGame_9 X hret _ _ _ _ _ _ _ hf hM (lv_sub hl [0, 1] rfl)
noncomputable def f_readGame (x1 : Int32) (I : Nat → Int32) (A : Nat → Nat → Int32) : Option (Int32 × MS) := f_readGame_0 x1 I A
theorem c_readGame {l : Launch} {D : va_G} {cy ci : ClassId} {h : Nat → Nat} {x1 : Int32} {I : Nat → Int32} {A : Nat → Nat → Int32} {o : Int32 × MS} (hf : f_readGame x1 I A = some o) : mMi l yX12_readGame wsX12_readGame ({ frames := 18, cells := 0, slots := 0, locals := 477 } : Room) [.ref (h 0), .int x1] D cy ci h I A o :=
  m_entryI (cc := cX12_readGame) (maxL := 5) (by decide) rfl rfl (Nat.le_of_ble_eq_true rfl) (fun p e s m args below meth c A0 Q H locs ls X hret hM hl => w_readGame_0 X hret hf hM (lv_sub hl [0, 1] rfl))
theorem hw_read : ∀ w ∈ wsX120, w ∈ wsX12_read := by decide +kernel
theorem fl_read_0 : Cond.fieldLink RX12 99 "MoveTextsModel" "thrown" "I" ∈ wsX12_read := by decide +kernel
theorem fl_read_1 : Cond.fieldLink RX12 270 "MoveTextsModel" "typed" "I" ∈ wsX12_read := by decide +kernel
theorem fl_read_5 : Cond.fieldLink RX12 347 "MoveTextsModel" "game" "I" ∈ wsX12_read := by decide +kernel
theorem fl_read_6 : Cond.fieldLink RX12 353 "MoveTextsModel" "here" "I" ∈ wsX12_read := by decide +kernel
theorem hd_read : yX12_read.cls = RX12 ∧ yX12_read.cls ≠ "java/lang/invoke/MethodHandle" ∧ yX12_read.cls ≠ "java/lang/invoke/VarHandle" ∧ (parseMethodDescriptor yX12_read.desc).map (fun d => d.parameters.length) = some 0 := by decide +kernel
noncomputable def f_read_47 (x2 : Int32) (I : Nat → Int32) (A : Nat → Nat → Int32) : Option (Int32 × MS) :=
  m_cl (f_place (I 5) (I 6) I A) (fun r1 Ic1 Ac1 =>
  some (x2, (Ic1, Ac1)))

set_option maxRecDepth 100000 in
set_option maxHeartbeats 4000000 in
theorem w_read_47 {p : Program} {l : Launch} {e : Env} {s : State} {m : MethodId} {args : Array Value} {below : List Frame} {meth : Method} {c : Code} {Q : State → Prop} {D : va_G} {cy ci : ClassId} {h : Nat → Nat} {A0 : Nat → Prop} {o : Int32 × MS} (X : CallFix p m c cX12_read 3 s args wsX12_read RX12) (hret : mRi p l e ({ frames := 19, cells := 0, slots := 0, locals := 501 } : Room) s m args below meth c Q cX12_read D cy ci h A0 .int o) {x2 : Int32} {I : Nat → Int32} {A : Nat → Nat → Int32} {H : Heap} {locs : List Loc} {ls : Array Slot} (hf : f_read_47 x2 I A = some o) (hM : mH D cy ci h A0 s H locs I A) (hl : lv_has ls 3 [(0, .ref (h 0)), (2, .int x2)]) : W p l e ({ frames := 19, cells := 0, slots := 0, locals := 501 } : Room) s m args below meth c H locs 0 0 Q (F0 m 47 ls []) := by
  obtain ⟨hx, hb, hml, hown, hts⟩ := id X
  unfold f_read_47 at hf
  refine lv_aload_n hx hb dX12_read_47 rfl (lv_at hl 0 rfl) ?_
  refine lv_aload_n hx hb dX12_read_48 rfl (lv_at hl 0 rfl) ?_
  refine m_get (v := .int (I 5)) X hw_read hM 5 (by decide) fl_read_5 rfl dX12_read_49 ?_
  refine lv_aload_n hx hb dX12_read_52 rfl (lv_at hl 0 rfl) ?_
  refine m_get (v := .int (I 6)) X hw_read hM 6 (by decide) fl_read_6 rfl dX12_read_53 ?_
  obtain ⟨o1, ho, hf⟩ := m_clE hf
  refine m_callVv X hM (c_place ho) gX12_read_X12_place rfl ⟨rfl, rfl⟩ hd_place ⟨Nat.le_of_ble_eq_true rfl, Nat.le_of_ble_eq_true rfl⟩ rfl hl.1 rfl (Nat.le_of_ble_eq_true rfl) dX12_read_56 (fun H locs hM => ?_)
  clear ho
  refine lv_iload_n hx hb dX12_read_59 rfl (lv_at hl 1 rfl) ?_
  cases hf
  exact hret H locs _ ls hM rfl dX12_read_60
noncomputable def f_read_0 (I : Nat → Int32) (A : Nat → Nat → Int32) : Option (Int32 × MS) :=
  m_bnd (upd I 0 (0 : Int32)) (fun I1 =>
  m_bnd ((1 : Int32) - (I1 5)) (fun v2 =>
  m_cl (f_clearGame v2 I1 A) (fun r3 Ic3 Ac3 =>
  m_cl (f_usual v2 Ic3 Ac3) (fun r4 Ic4 Ac4 =>
  m_cl (f_readGame v2 Ic4 Ac4) (fun r5 Ic5 Ac5 =>
  m_if (r5 = 0) (
  m_bnd (upd Ic5 5 v2) (fun I6 =>
  m_bnd (upd I6 6 (0 : Int32)) (fun I7 =>
  m_bnd (upd I7 1 (0 : Int32)) (fun I8 =>
  f_read_47 r5 I8 Ac5)))
  ) (
  f_read_47 r5 Ic5 Ac5
  ))))))

set_option maxRecDepth 100000 in
set_option maxHeartbeats 4000000 in
theorem w_read_0 {p : Program} {l : Launch} {e : Env} {s : State} {m : MethodId} {args : Array Value} {below : List Frame} {meth : Method} {c : Code} {Q : State → Prop} {D : va_G} {cy ci : ClassId} {h : Nat → Nat} {A0 : Nat → Prop} {o : Int32 × MS} (X : CallFix p m c cX12_read 3 s args wsX12_read RX12) (hret : mRi p l e ({ frames := 19, cells := 0, slots := 0, locals := 501 } : Room) s m args below meth c Q cX12_read D cy ci h A0 .int o) {I : Nat → Int32} {A : Nat → Nat → Int32} {H : Heap} {locs : List Loc} {ls : Array Slot} (hf : f_read_0  I A = some o) (hM : mH D cy ci h A0 s H locs I A) (hl : lv_has ls 3 [(0, .ref (h 0))]) : W p l e ({ frames := 19, cells := 0, slots := 0, locals := 501 } : Room) s m args below meth c H locs 0 0 Q (F0 m 0 ls []) := by
  obtain ⟨hx, hb, hml, hown, hts⟩ := id X
  unfold f_read_0 at hf
  refine lv_aload_n hx hb dX12_read_0 rfl (lv_at hl 0 rfl) ?_
  refine lv_iconst (v := (0 : Int32)) hx hb dX12_read_1 (by decide) ?_
  refine m_put X hw_read hM 0 (by decide) fl_read_0 mi_0 rfl (tyX12_ok 0 (by decide)) dX12_read_2 (fun H locs hM => ?_)
  obtain ⟨I1, ev, hf⟩ := m_bndE hf
  replace hM := m_hI hM ev
  clear ev
  refine lv_iconst (v := (1 : Int32)) hx hb dX12_read_5 (by decide) ?_
  refine lv_aload_n hx hb dX12_read_6 rfl (lv_at hl 0 rfl) ?_
  refine m_get (v := .int (I1 5)) X hw_read hM 5 (by decide) fl_read_5 rfl dX12_read_7 ?_
  refine lv_isub hx hb dX12_read_10 ?_
  obtain ⟨v2, ev, hf⟩ := m_bndE hf
  refine m_top ev ?_
  clear ev
  refine lv_istore_n (lv' := [(1, .int v2), (0, .ref (h 0))]) hx hb dX12_read_11 rfl hl (by decide) rfl (fun ls hl => ?_)
  refine lv_aload_n hx hb dX12_read_12 rfl (lv_at hl 1 rfl) ?_
  refine lv_iload_n hx hb dX12_read_13 rfl (lv_at hl 0 rfl) ?_
  obtain ⟨o3, ho, hf⟩ := m_clE hf
  refine m_callVv X hM (c_clearGame ho) gX12_read_X12_clearGame rfl ⟨rfl, rfl⟩ hd_clearGame ⟨Nat.le_of_ble_eq_true rfl, Nat.le_of_ble_eq_true rfl⟩ rfl hl.1 rfl (Nat.le_of_ble_eq_true rfl) dX12_read_14 (fun H locs hM => ?_)
  clear ho
  refine lv_aload_n hx hb dX12_read_17 rfl (lv_at hl 1 rfl) ?_
  refine lv_iload_n hx hb dX12_read_18 rfl (lv_at hl 0 rfl) ?_
  obtain ⟨o4, ho, hf⟩ := m_clE hf
  refine m_callVv X hM (c_usual ho) gX12_read_X12_usual rfl ⟨rfl, rfl⟩ hd_usual ⟨Nat.le_of_ble_eq_true rfl, Nat.le_of_ble_eq_true rfl⟩ rfl hl.1 rfl (Nat.le_of_ble_eq_true rfl) dX12_read_19 (fun H locs hM => ?_)
  clear ho
  refine lv_aload_n hx hb dX12_read_22 rfl (lv_at hl 1 rfl) ?_
  refine lv_iload_n hx hb dX12_read_23 rfl (lv_at hl 0 rfl) ?_
  obtain ⟨o5, ho, hf⟩ := m_clE hf
  refine m_callVi X hM (c_readGame ho) gX12_read_X12_readGame rfl ⟨rfl, rfl⟩ hd_readGame ⟨Nat.le_of_ble_eq_true rfl, Nat.le_of_ble_eq_true rfl⟩ rfl hl.1 rfl (Nat.le_of_ble_eq_true rfl) dX12_read_24 (fun H locs hM => ?_)
  clear ho
  refine lv_istore_n (lv' := [(2, .int o5.1), (1, .int v2), (0, .ref (h 0))]) hx hb dX12_read_27 rfl hl (by decide) rfl (fun ls hl => ?_)
  refine lv_iload_n hx hb dX12_read_28 rfl (lv_at hl 0 rfl) ?_
  refine lv_if_ne (tgt := 47) hx hb dX12_read_29 (by decide) (fun cc1 => ?_) (fun cc1 => ?_)
  · replace hf := m_ifF hf cc1
    exact w_read_47 X hret hf hM (lv_sub hl [2, 0] rfl)
  · replace hf := m_ifT hf cc1
    refine lv_aload_n hx hb dX12_read_32 rfl (lv_at hl 2 rfl) ?_
    refine lv_iload_n hx hb dX12_read_33 rfl (lv_at hl 1 rfl) ?_
    refine m_put X hw_read hM 5 (by decide) fl_read_5 mi_5 rfl (tyX12_ok 5 (by decide)) dX12_read_34 (fun H locs hM => ?_)
    obtain ⟨I6, ev, hf⟩ := m_bndE hf
    replace hM := m_hI hM ev
    clear ev
    refine lv_aload_n hx hb dX12_read_37 rfl (lv_at hl 2 rfl) ?_
    refine lv_iconst (v := (0 : Int32)) hx hb dX12_read_38 (by decide) ?_
    refine m_put X hw_read hM 6 (by decide) fl_read_6 mi_6 rfl (tyX12_ok 6 (by decide)) dX12_read_39 (fun H locs hM => ?_)
    obtain ⟨I7, ev, hf⟩ := m_bndE hf
    replace hM := m_hI hM ev
    clear ev
    refine lv_aload_n hx hb dX12_read_42 rfl (lv_at hl 2 rfl) ?_
    refine lv_iconst (v := (0 : Int32)) hx hb dX12_read_43 (by decide) ?_
    refine m_put X hw_read hM 1 (by decide) fl_read_1 mi_1 rfl (tyX12_ok 1 (by decide)) dX12_read_44 (fun H locs hM => ?_)
    obtain ⟨I8, ev, hf⟩ := m_bndE hf
    replace hM := m_hI hM ev
    clear ev
    exact w_read_47 X hret hf hM (lv_sub hl [2, 0] rfl)
noncomputable def f_read (I : Nat → Int32) (A : Nat → Nat → Int32) : Option (Int32 × MS) := f_read_0  I A
theorem c_read {l : Launch} {D : va_G} {cy ci : ClassId} {h : Nat → Nat} {I : Nat → Int32} {A : Nat → Nat → Int32} {o : Int32 × MS} (hf : f_read  I A = some o) : mMi l yX12_read wsX12_read ({ frames := 19, cells := 0, slots := 0, locals := 501 } : Room) [.ref (h 0)] D cy ci h I A o :=
  m_entryI (cc := cX12_read) (maxL := 3) (by decide) rfl rfl (Nat.le_of_ble_eq_true rfl) (fun p e s m args below meth c A0 Q H locs ls X hret hM hl => w_read_0 X hret hf hM (lv_sub hl [0] rfl))
theorem hw_find : ∀ w ∈ wsX120, w ∈ wsX12_find := by decide +kernel
theorem fl_find_0 : Cond.fieldLink RX12 99 "MoveTextsModel" "thrown" "I" ∈ wsX12_find := by decide +kernel
theorem fl_find_1 : Cond.fieldLink RX12 270 "MoveTextsModel" "typed" "I" ∈ wsX12_find := by decide +kernel
theorem hd_find : yX12_find.cls = RX12 ∧ yX12_find.cls ≠ "java/lang/invoke/MethodHandle" ∧ yX12_find.cls ≠ "java/lang/invoke/VarHandle" ∧ (parseMethodDescriptor yX12_find.desc).map (fun d => d.parameters.length) = some 0 := by decide +kernel
noncomputable def f_find_0 (I : Nat → Int32) (A : Nat → Nat → Int32) : Option (Int32 × MS) :=
  m_bnd (upd I 0 (0 : Int32)) (fun I1 =>
  m_cl (f_understood (0 : Int32) (I1 1) I1 A) (fun r2 Ic2 Ac2 =>
  some (r2, (Ic2, Ac2))))

set_option maxRecDepth 100000 in
set_option maxHeartbeats 4000000 in
theorem w_find_0 {p : Program} {l : Launch} {e : Env} {s : State} {m : MethodId} {args : Array Value} {below : List Frame} {meth : Method} {c : Code} {Q : State → Prop} {D : va_G} {cy ci : ClassId} {h : Nat → Nat} {A0 : Nat → Prop} {o : Int32 × MS} (X : CallFix p m c cX12_find 1 s args wsX12_find RX12) (hret : mRi p l e ({ frames := 8, cells := 0, slots := 0, locals := 210 } : Room) s m args below meth c Q cX12_find D cy ci h A0 .int o) {I : Nat → Int32} {A : Nat → Nat → Int32} {H : Heap} {locs : List Loc} {ls : Array Slot} (hf : f_find_0  I A = some o) (hM : mH D cy ci h A0 s H locs I A) (hl : lv_has ls 1 [(0, .ref (h 0))]) : W p l e ({ frames := 8, cells := 0, slots := 0, locals := 210 } : Room) s m args below meth c H locs 0 0 Q (F0 m 0 ls []) := by
  obtain ⟨hx, hb, hml, hown, hts⟩ := id X
  unfold f_find_0 at hf
  refine lv_aload_n hx hb dX12_find_0 rfl (lv_at hl 0 rfl) ?_
  refine lv_iconst (v := (0 : Int32)) hx hb dX12_find_1 (by decide) ?_
  refine m_put X hw_find hM 0 (by decide) fl_find_0 mi_0 rfl (tyX12_ok 0 (by decide)) dX12_find_2 (fun H locs hM => ?_)
  obtain ⟨I1, ev, hf⟩ := m_bndE hf
  replace hM := m_hI hM ev
  clear ev
  refine lv_aload_n hx hb dX12_find_5 rfl (lv_at hl 0 rfl) ?_
  refine lv_iconst (v := (0 : Int32)) hx hb dX12_find_6 (by decide) ?_
  refine lv_aload_n hx hb dX12_find_7 rfl (lv_at hl 0 rfl) ?_
  refine m_get (v := .int (I1 1)) X hw_find hM 1 (by decide) fl_find_1 rfl dX12_find_8 ?_
  obtain ⟨o2, ho, hf⟩ := m_clE hf
  refine m_callVi X hM (c_understood ho) gX12_find_X12_understood rfl ⟨rfl, rfl⟩ hd_understood ⟨Nat.le_of_ble_eq_true rfl, Nat.le_of_ble_eq_true rfl⟩ rfl hl.1 rfl (Nat.le_of_ble_eq_true rfl) dX12_find_11 (fun H locs hM => ?_)
  clear ho
  cases hf
  exact hret H locs _ ls hM rfl dX12_find_14
noncomputable def f_find (I : Nat → Int32) (A : Nat → Nat → Int32) : Option (Int32 × MS) := f_find_0  I A
theorem c_find {l : Launch} {D : va_G} {cy ci : ClassId} {h : Nat → Nat} {I : Nat → Int32} {A : Nat → Nat → Int32} {o : Int32 × MS} (hf : f_find  I A = some o) : mMi l yX12_find wsX12_find ({ frames := 8, cells := 0, slots := 0, locals := 210 } : Room) [.ref (h 0)] D cy ci h I A o :=
  m_entryI (cc := cX12_find) (maxL := 1) (by decide) rfl rfl (Nat.le_of_ble_eq_true rfl) (fun p e s m args below meth c A0 Q H locs ls X hret hM hl => w_find_0 X hret hf hM (lv_sub hl [0] rfl))
theorem hw_type : ∀ w ∈ wsX120, w ∈ wsX12_type := by decide +kernel
theorem fl_type_0 : Cond.fieldLink RX12 99 "MoveTextsModel" "thrown" "I" ∈ wsX12_type := by decide +kernel
theorem fl_type_1 : Cond.fieldLink RX12 270 "MoveTextsModel" "typed" "I" ∈ wsX12_type := by decide +kernel
theorem fl_type_2 : Cond.fieldLink RX12 7 "MoveTextsModel" "text" "[C" ∈ wsX12_type := by decide +kernel
theorem hd_type : yX12_type.cls = RX12 ∧ yX12_type.cls ≠ "java/lang/invoke/MethodHandle" ∧ yX12_type.cls ≠ "java/lang/invoke/VarHandle" ∧ (parseMethodDescriptor yX12_type.desc).map (fun d => d.parameters.length) = some 2 := by decide +kernel
theorem cl_type_356 : Cond.constantLong RX12 356 (255) ∈ wsX12_type := by decide +kernel
theorem cl_type_358 : Cond.constantLong RX12 358 (10) ∈ wsX12_type := by decide +kernel
theorem cl_type_360 : Cond.constantLong RX12 360 (32) ∈ wsX12_type := by decide +kernel
theorem cl_type_362 : Cond.constantLong RX12 362 (126) ∈ wsX12_type := by decide +kernel
noncomputable def f_type_28 (I : Nat → Int32) (A : Nat → Nat → Int32) : Option (Int32 × MS) :=
  m_chk (vp_nar .boolean (0 : Int32) = (0 : Int32)) (some ((0 : Int32), (I, A)))

set_option maxRecDepth 100000 in
set_option maxHeartbeats 4000000 in
theorem w_type_28 {p : Program} {l : Launch} {e : Env} {s : State} {m : MethodId} {args : Array Value} {below : List Frame} {meth : Method} {c : Code} {Q : State → Prop} {D : va_G} {cy ci : ClassId} {h : Nat → Nat} {A0 : Nat → Prop} {o : Int32 × MS} (X : CallFix p m c cX12_type 7 s args wsX12_type RX12) (hret : mRi p l e ({ frames := 0, cells := 0, slots := 0, locals := 0 } : Room) s m args below meth c Q cX12_type D cy ci h A0 .boolean o) {I : Nat → Int32} {A : Nat → Nat → Int32} {H : Heap} {locs : List Loc} {ls : Array Slot} (hf : f_type_28  I A = some o) (hM : mH D cy ci h A0 s H locs I A) (hl : lv_has ls 7 []) : W p l e ({ frames := 0, cells := 0, slots := 0, locals := 0 } : Room) s m args below meth c H locs 0 0 Q (F0 m 28 ls []) := by
  obtain ⟨hx, hb, hml, hown, hts⟩ := id X
  unfold f_type_28 at hf
  refine lv_iconst (v := (0 : Int32)) hx hb dX12_type_28 (by decide) ?_
  obtain ⟨cd, hf⟩ := m_chkE hf
  cases hf
  exact hret H locs _ ls hM (m_nb cd) dX12_type_29
noncomputable def f_type_90s (self90 : Int64 → Int32 → Int32 → (Nat → Int32) → (Nat → Nat → Int32) → Option (Int32 × MS)) (x1 : Int64) (x3 : Int32) (x4 : Int32) (I : Nat → Int32) (A : Nat → Nat → Int32) : Option (Int32 × MS) :=
  m_if (x3 ≤ x4) (
  m_chk (vp_nar .boolean (1 : Int32) = (1 : Int32)) (some ((1 : Int32), (I, A)))
  ) (
  m_bnd ((8 : Int32) * x4) (fun v1 =>
  m_bnd (x1 >>> ((v1).toInt64 &&& 63)) (fun v2 =>
  m_bnd (v2 &&& (255 : Int64)) (fun v3 =>
  m_bnd ((v3).toInt32) (fun v4 =>
  m_bnd ((v4.toUInt32 % 65536).toInt32) (fun v5 =>
  m_chk (¬ ((I 1) < 0 ∨ 2000 ≤ ((I 1)).toNatClampNeg)) (
  m_bnd (va_up A 2 (upd (A 2) ((I 1)).toNatClampNeg (vp_nar .char v5))) (fun A6 =>
  m_bnd ((I 1) + (1 : Int32)) (fun v7 =>
  m_bnd (upd I 1 v7) (fun I8 =>
  m_bnd (x4 + (1 : Int32)) (fun v9 =>
  self90 x1 x3 v9 I8 A6))))))))))
  )

set_option maxRecDepth 100000 in
set_option maxHeartbeats 4000000 in
theorem ws_type_90 {p : Program} {l : Launch} {e : Env} {s : State} {m : MethodId} {args : Array Value} {below : List Frame} {meth : Method} {c : Code} {Q : State → Prop} {D : va_G} {cy ci : ClassId} {h : Nat → Nat} {A0 : Nat → Prop} {o : Int32 × MS} (X : CallFix p m c cX12_type 7 s args wsX12_type RX12) (hret : mRi p l e ({ frames := 0, cells := 0, slots := 0, locals := 0 } : Room) s m args below meth c Q cX12_type D cy ci h A0 .boolean o) {self90 : Int64 → Int32 → Int32 → (Nat → Int32) → (Nat → Nat → Int32) → Option (Int32 × MS)} (hself90 : ∀ (x1 : Int64) (x3 : Int32) (x4 : Int32) (I : Nat → Int32) (A : Nat → Nat → Int32) (H : Heap) (locs : List Loc) (ls : Array Slot), self90 x1 x3 x4 I A = some o → mH D cy ci h A0 s H locs I A → lv_has ls 7 [(0, .ref (h 0)), (1, .long x1), (3, .int x3), (4, .int x4)] → W p l e ({ frames := 0, cells := 0, slots := 0, locals := 0 } : Room) s m args below meth c H locs 0 0 Q (F0 m 90 ls [])) {x1 : Int64} {x3 : Int32} {x4 : Int32} {I : Nat → Int32} {A : Nat → Nat → Int32} {H : Heap} {locs : List Loc} {ls : Array Slot} (hf : f_type_90s self90 x1 x3 x4 I A = some o) (hM : mH D cy ci h A0 s H locs I A) (hl : lv_has ls 7 [(0, .ref (h 0)), (1, .long x1), (3, .int x3), (4, .int x4)]) : W p l e ({ frames := 0, cells := 0, slots := 0, locals := 0 } : Room) s m args below meth c H locs 0 0 Q (F0 m 90 ls []) := by
  obtain ⟨hx, hb, hml, hown, hts⟩ := id X
  unfold f_type_90s at hf
  refine lv_iload hx hb dX12_type_90 (lv_at hl 3 rfl) ?_
  refine lv_iload_n hx hb dX12_type_92 rfl (lv_at hl 2 rfl) ?_
  refine lv_icmp_ge (tgt := 134) hx hb dX12_type_93 (by decide) (fun cc1 => ?_) (fun cc1 => ?_)
  · replace hf := m_ifT hf cc1
    refine lv_iconst (v := (1 : Int32)) hx hb dX12_type_134 (by decide) ?_
    obtain ⟨cd, hf⟩ := m_chkE hf
    cases hf
    exact hret H locs _ ls hM (m_nb cd) dX12_type_135
  · replace hf := m_ifF hf cc1
    refine lv_aload_n hx hb dX12_type_96 rfl (lv_at hl 0 rfl) ?_
    refine m_get (v := .ref (h 2)) X hw_type hM 2 (by decide) fl_type_2 rfl dX12_type_97 ?_
    refine lv_aload_n hx hb dX12_type_100 rfl (lv_at hl 0 rfl) ?_
    refine m_get (v := .int (I 1)) X hw_type hM 1 (by decide) fl_type_1 rfl dX12_type_101 ?_
    refine lv_lload_n hx hb dX12_type_104 rfl (lv_at hl 1 rfl) ?_
    refine lv_bipush (v := (8 : Int32)) hx hb dX12_type_105 (by decide) ?_
    refine lv_iload hx hb dX12_type_107 (lv_at hl 3 rfl) ?_
    refine lv_imul hx hb dX12_type_109 ?_
    obtain ⟨v1, ev, hf⟩ := m_bndE hf
    refine m_top ev ?_
    clear ev
    refine lv_lshr (v := x1 >>> ((v1).toInt64 &&& 63)) hx hb dX12_type_110 rfl ?_
    obtain ⟨v2, ev, hf⟩ := m_bndE hf
    refine m_topl ev ?_
    clear ev
    refine lv_ldc2 (v := (255 : Int64)) hx hb hown (hts _ cl_type_356) dX12_type_111 ?_
    refine lv_land hx hb dX12_type_114 ?_
    obtain ⟨v3, ev, hf⟩ := m_bndE hf
    refine m_topl ev ?_
    clear ev
    refine lv_l2i (v := (v3).toInt32) hx hb dX12_type_115 rfl ?_
    obtain ⟨v4, ev, hf⟩ := m_bndE hf
    refine m_top ev ?_
    clear ev
    refine lv_i2c (v := (v4.toUInt32 % 65536).toInt32) hx hb dX12_type_116 rfl ?_
    obtain ⟨v5, ev, hf⟩ := m_bndE hf
    refine m_top ev ?_
    clear ev
    obtain ⟨cd, hf⟩ := m_chkE hf
    refine m_cast X hM 2 1 2000 rfl ma_2 cd dX12_type_117 (fun H locs hM => ?_)
    clear cd
    obtain ⟨A6, ev, hf⟩ := m_bndE hf
    replace hM := m_hA hM ev
    clear ev
    refine lv_aload_n hx hb dX12_type_118 rfl (lv_at hl 0 rfl) ?_
    refine lv_dup hx hb dX12_type_119 rfl ?_
    refine m_get (v := .int (I 1)) X hw_type hM 1 (by decide) fl_type_1 rfl dX12_type_120 ?_
    refine lv_iconst (v := (1 : Int32)) hx hb dX12_type_123 (by decide) ?_
    refine lv_iadd hx hb dX12_type_124 ?_
    obtain ⟨v7, ev, hf⟩ := m_bndE hf
    refine m_top ev ?_
    clear ev
    refine m_put X hw_type hM 1 (by decide) fl_type_1 mi_1 rfl (tyX12_ok 1 (by decide)) dX12_type_125 (fun H locs hM => ?_)
    obtain ⟨I8, ev, hf⟩ := m_bndE hf
    replace hM := m_hI hM ev
    clear ev
    obtain ⟨v9, ev, hf⟩ := m_bndE hf
    refine lv_iinc (v := v9) (lv' := [(4, .int v9), (0, .ref (h 0)), (1, .long x1), (3, .int x3)]) hx hb dX12_type_128 hl (k := 3) rfl (by rw [ev]; rfl) (by decide) rfl (fun ls hl => ?_)
    clear ev
    refine lv_goto (tgt := 90) hx hb dX12_type_131 (by decide) ?_
    exact hself90 _ _ _ _ _ _ _ _ hf hM (lv_sub hl [1, 2, 3, 0] rfl)
noncomputable def f_type_90 : Nat → Int64 → Int32 → Int32 → (Nat → Int32) → (Nat → Nat → Int32) → Option (Int32 × MS)
  | 0 => fun _ _ _ _ _ => none
  | n + 1 => f_type_90s (f_type_90 n)
theorem w_type_90 {p : Program} {l : Launch} {e : Env} {s : State} {m : MethodId} {args : Array Value} {below : List Frame} {meth : Method} {c : Code} {Q : State → Prop} {D : va_G} {cy ci : ClassId} {h : Nat → Nat} {A0 : Nat → Prop} {o : Int32 × MS} (X : CallFix p m c cX12_type 7 s args wsX12_type RX12) (hret : mRi p l e ({ frames := 0, cells := 0, slots := 0, locals := 0 } : Room) s m args below meth c Q cX12_type D cy ci h A0 .boolean o) (n : Nat) : ∀ (x1 : Int64) (x3 : Int32) (x4 : Int32) (I : Nat → Int32) (A : Nat → Nat → Int32) (H : Heap) (locs : List Loc) (ls : Array Slot), f_type_90 n x1 x3 x4 I A = some o → mH D cy ci h A0 s H locs I A → lv_has ls 7 [(0, .ref (h 0)), (1, .long x1), (3, .int x3), (4, .int x4)] → W p l e ({ frames := 0, cells := 0, slots := 0, locals := 0 } : Room) s m args below meth c H locs 0 0 Q (F0 m 90 ls []) := by
  induction n with
  | zero => intro x1 x3 x4 I A H locs ls hf; cases hf
  | succ n ih => intro x1 x3 x4 I A H locs ls hf hM hl; exact ws_type_90 X hret (self90 := f_type_90 n) ih hf hM hl
noncomputable def f_type_81 (self33 : Int64 → Int32 → Int32 → (Nat → Int32) → (Nat → Nat → Int32) → Option (Int32 × MS)) (x1 : Int64) (x3 : Int32) (x4 : Int32) (I : Nat → Int32) (A : Nat → Nat → Int32) : Option (Int32 × MS) :=
  m_bnd (x4 + (1 : Int32)) (fun v1 =>
  self33 x1 x3 v1 I A)

set_option maxRecDepth 100000 in
set_option maxHeartbeats 4000000 in
theorem w_type_81 {p : Program} {l : Launch} {e : Env} {s : State} {m : MethodId} {args : Array Value} {below : List Frame} {meth : Method} {c : Code} {Q : State → Prop} {D : va_G} {cy ci : ClassId} {h : Nat → Nat} {A0 : Nat → Prop} {o : Int32 × MS} (X : CallFix p m c cX12_type 7 s args wsX12_type RX12) (hret : mRi p l e ({ frames := 0, cells := 0, slots := 0, locals := 0 } : Room) s m args below meth c Q cX12_type D cy ci h A0 .boolean o) {self33 : Int64 → Int32 → Int32 → (Nat → Int32) → (Nat → Nat → Int32) → Option (Int32 × MS)} (hself33 : ∀ (x1 : Int64) (x3 : Int32) (x4 : Int32) (I : Nat → Int32) (A : Nat → Nat → Int32) (H : Heap) (locs : List Loc) (ls : Array Slot), self33 x1 x3 x4 I A = some o → mH D cy ci h A0 s H locs I A → lv_has ls 7 [(0, .ref (h 0)), (1, .long x1), (3, .int x3), (4, .int x4)] → W p l e ({ frames := 0, cells := 0, slots := 0, locals := 0 } : Room) s m args below meth c H locs 0 0 Q (F0 m 33 ls [])) {x1 : Int64} {x3 : Int32} {x4 : Int32} {I : Nat → Int32} {A : Nat → Nat → Int32} {H : Heap} {locs : List Loc} {ls : Array Slot} (hf : f_type_81 self33 x1 x3 x4 I A = some o) (hM : mH D cy ci h A0 s H locs I A) (hl : lv_has ls 7 [(0, .ref (h 0)), (1, .long x1), (3, .int x3), (4, .int x4)]) : W p l e ({ frames := 0, cells := 0, slots := 0, locals := 0 } : Room) s m args below meth c H locs 0 0 Q (F0 m 81 ls []) := by
  obtain ⟨hx, hb, hml, hown, hts⟩ := id X
  unfold f_type_81 at hf
  obtain ⟨v1, ev, hf⟩ := m_bndE hf
  refine lv_iinc (v := v1) (lv' := [(4, .int v1), (0, .ref (h 0)), (1, .long x1), (3, .int x3)]) hx hb dX12_type_81 hl (k := 3) rfl (by rw [ev]; rfl) (by decide) rfl (fun ls hl => ?_)
  clear ev
  refine lv_goto (tgt := 33) hx hb dX12_type_84 (by decide) ?_
  exact hself33 _ _ _ _ _ _ _ _ hf hM (lv_sub hl [1, 2, 3, 0] rfl)
noncomputable def f_type_79 (I : Nat → Int32) (A : Nat → Nat → Int32) : Option (Int32 × MS) :=
  m_chk (vp_nar .boolean (0 : Int32) = (0 : Int32)) (some ((0 : Int32), (I, A)))

set_option maxRecDepth 100000 in
set_option maxHeartbeats 4000000 in
theorem w_type_79 {p : Program} {l : Launch} {e : Env} {s : State} {m : MethodId} {args : Array Value} {below : List Frame} {meth : Method} {c : Code} {Q : State → Prop} {D : va_G} {cy ci : ClassId} {h : Nat → Nat} {A0 : Nat → Prop} {o : Int32 × MS} (X : CallFix p m c cX12_type 7 s args wsX12_type RX12) (hret : mRi p l e ({ frames := 0, cells := 0, slots := 0, locals := 0 } : Room) s m args below meth c Q cX12_type D cy ci h A0 .boolean o) {I : Nat → Int32} {A : Nat → Nat → Int32} {H : Heap} {locs : List Loc} {ls : Array Slot} (hf : f_type_79  I A = some o) (hM : mH D cy ci h A0 s H locs I A) (hl : lv_has ls 7 []) : W p l e ({ frames := 0, cells := 0, slots := 0, locals := 0 } : Room) s m args below meth c H locs 0 0 Q (F0 m 79 ls []) := by
  obtain ⟨hx, hb, hml, hown, hts⟩ := id X
  unfold f_type_79 at hf
  refine lv_iconst (v := (0 : Int32)) hx hb dX12_type_79 (by decide) ?_
  obtain ⟨cd, hf⟩ := m_chkE hf
  cases hf
  exact hret H locs _ ls hM (m_nb cd) dX12_type_80
noncomputable def f_type_33s (self33 : Int64 → Int32 → Int32 → (Nat → Int32) → (Nat → Nat → Int32) → Option (Int32 × MS)) (x1 : Int64) (x3 : Int32) (x4 : Int32) (I : Nat → Int32) (A : Nat → Nat → Int32) : Option (Int32 × MS) :=
  m_if (x3 ≤ x4) (
  f_type_90 mFuel x1 x3 (0 : Int32) I A
  ) (
  m_bnd ((8 : Int32) * x4) (fun v1 =>
  m_bnd (x1 >>> ((v1).toInt64 &&& 63)) (fun v2 =>
  m_bnd (v2 &&& (255 : Int64)) (fun v3 =>
  m_bnd (lg_cmp v3 (10 : Int64)) (fun v4 =>
  m_if (v4 = 0) (
  f_type_81 self33 x1 x3 x4 I A
  ) (
  m_bnd (lg_cmp v3 (32 : Int64)) (fun v5 =>
  m_if (v5 < 0) (
  f_type_79  I A
  ) (
  m_bnd (lg_cmp v3 (126 : Int64)) (fun v6 =>
  m_if (v6 ≤ 0) (
  f_type_81 self33 x1 x3 x4 I A
  ) (
  f_type_79  I A
  ))
  ))
  )))))
  )

set_option maxRecDepth 100000 in
set_option maxHeartbeats 4000000 in
theorem ws_type_33 {p : Program} {l : Launch} {e : Env} {s : State} {m : MethodId} {args : Array Value} {below : List Frame} {meth : Method} {c : Code} {Q : State → Prop} {D : va_G} {cy ci : ClassId} {h : Nat → Nat} {A0 : Nat → Prop} {o : Int32 × MS} (X : CallFix p m c cX12_type 7 s args wsX12_type RX12) (hret : mRi p l e ({ frames := 0, cells := 0, slots := 0, locals := 0 } : Room) s m args below meth c Q cX12_type D cy ci h A0 .boolean o) {self33 : Int64 → Int32 → Int32 → (Nat → Int32) → (Nat → Nat → Int32) → Option (Int32 × MS)} (hself33 : ∀ (x1 : Int64) (x3 : Int32) (x4 : Int32) (I : Nat → Int32) (A : Nat → Nat → Int32) (H : Heap) (locs : List Loc) (ls : Array Slot), self33 x1 x3 x4 I A = some o → mH D cy ci h A0 s H locs I A → lv_has ls 7 [(0, .ref (h 0)), (1, .long x1), (3, .int x3), (4, .int x4)] → W p l e ({ frames := 0, cells := 0, slots := 0, locals := 0 } : Room) s m args below meth c H locs 0 0 Q (F0 m 33 ls [])) {x1 : Int64} {x3 : Int32} {x4 : Int32} {I : Nat → Int32} {A : Nat → Nat → Int32} {H : Heap} {locs : List Loc} {ls : Array Slot} (hf : f_type_33s self33 x1 x3 x4 I A = some o) (hM : mH D cy ci h A0 s H locs I A) (hl : lv_has ls 7 [(0, .ref (h 0)), (1, .long x1), (3, .int x3), (4, .int x4)]) : W p l e ({ frames := 0, cells := 0, slots := 0, locals := 0 } : Room) s m args below meth c H locs 0 0 Q (F0 m 33 ls []) := by
  obtain ⟨hx, hb, hml, hown, hts⟩ := id X
  unfold f_type_33s at hf
  refine lv_iload hx hb dX12_type_33 (lv_at hl 3 rfl) ?_
  refine lv_iload_n hx hb dX12_type_35 rfl (lv_at hl 2 rfl) ?_
  refine lv_icmp_ge (tgt := 87) hx hb dX12_type_36 (by decide) (fun cc1 => ?_) (fun cc1 => ?_)
  · replace hf := m_ifT hf cc1
    refine lv_iconst (v := (0 : Int32)) hx hb dX12_type_87 (by decide) ?_
    refine lv_istore (lv' := [(4, .int (0 : Int32)), (0, .ref (h 0)), (1, .long x1), (3, .int x3)]) hx hb dX12_type_88 hl (by decide) rfl (fun ls hl => ?_)
    exact w_type_90 X hret _ _ _ _ _ _ _ _ _ hf hM (lv_sub hl [1, 2, 3, 0] rfl)
  · replace hf := m_ifF hf cc1
    refine lv_lload_n hx hb dX12_type_39 rfl (lv_at hl 1 rfl) ?_
    refine lv_bipush (v := (8 : Int32)) hx hb dX12_type_40 (by decide) ?_
    refine lv_iload hx hb dX12_type_42 (lv_at hl 3 rfl) ?_
    refine lv_imul hx hb dX12_type_44 ?_
    obtain ⟨v1, ev, hf⟩ := m_bndE hf
    refine m_top ev ?_
    clear ev
    refine lv_lshr (v := x1 >>> ((v1).toInt64 &&& 63)) hx hb dX12_type_45 rfl ?_
    obtain ⟨v2, ev, hf⟩ := m_bndE hf
    refine m_topl ev ?_
    clear ev
    refine lv_ldc2 (v := (255 : Int64)) hx hb hown (hts _ cl_type_356) dX12_type_46 ?_
    refine lv_land hx hb dX12_type_49 ?_
    obtain ⟨v3, ev, hf⟩ := m_bndE hf
    refine m_topl ev ?_
    clear ev
    refine lv_lstore (lv' := [(5, .long v3), (0, .ref (h 0)), (1, .long x1), (3, .int x3), (4, .int x4)]) hx hb dX12_type_50 hl (by decide) rfl (fun ls hl => ?_)
    refine lv_lload hx hb dX12_type_52 (lv_at hl 0 rfl) ?_
    refine lv_ldc2 (v := (10 : Int64)) hx hb hown (hts _ cl_type_358) dX12_type_54 ?_
    refine W.lcmp hx hb dX12_type_57 ?_
    obtain ⟨v4, ev, hf⟩ := m_bndE hf
    refine m_top ev ?_
    clear ev
    refine lv_if_eq (tgt := 81) hx hb dX12_type_58 (by decide) (fun cc1 => ?_) (fun cc1 => ?_)
    · replace hf := m_ifT hf cc1
      exact w_type_81 X hret hself33 hf hM (lv_sub hl [1, 2, 3, 4] rfl)
    · replace hf := m_ifF hf cc1
      refine lv_lload hx hb dX12_type_61 (lv_at hl 0 rfl) ?_
      refine lv_ldc2 (v := (32 : Int64)) hx hb hown (hts _ cl_type_360) dX12_type_63 ?_
      refine W.lcmp hx hb dX12_type_66 ?_
      obtain ⟨v5, ev, hf⟩ := m_bndE hf
      refine m_top ev ?_
      clear ev
      refine lv_if_lt (tgt := 79) hx hb dX12_type_67 (by decide) (fun cc1 => ?_) (fun cc1 => ?_)
      · replace hf := m_ifT hf cc1
        exact w_type_79 X hret hf hM (lv_sub hl [] rfl)
      · replace hf := m_ifF hf cc1
        refine lv_lload hx hb dX12_type_70 (lv_at hl 0 rfl) ?_
        refine lv_ldc2 (v := (126 : Int64)) hx hb hown (hts _ cl_type_362) dX12_type_72 ?_
        refine W.lcmp hx hb dX12_type_75 ?_
        obtain ⟨v6, ev, hf⟩ := m_bndE hf
        refine m_top ev ?_
        clear ev
        refine lv_if_le (tgt := 81) hx hb dX12_type_76 (by decide) (fun cc1 => ?_) (fun cc1 => ?_)
        · replace hf := m_ifT hf cc1
          exact w_type_81 X hret hself33 hf hM (lv_sub hl [1, 2, 3, 4] rfl)
        · replace hf := m_ifF hf cc1
          exact w_type_79 X hret hf hM (lv_sub hl [] rfl)
noncomputable def f_type_33 : Nat → Int64 → Int32 → Int32 → (Nat → Int32) → (Nat → Nat → Int32) → Option (Int32 × MS)
  | 0 => fun _ _ _ _ _ => none
  | n + 1 => f_type_33s (f_type_33 n)
theorem w_type_33 {p : Program} {l : Launch} {e : Env} {s : State} {m : MethodId} {args : Array Value} {below : List Frame} {meth : Method} {c : Code} {Q : State → Prop} {D : va_G} {cy ci : ClassId} {h : Nat → Nat} {A0 : Nat → Prop} {o : Int32 × MS} (X : CallFix p m c cX12_type 7 s args wsX12_type RX12) (hret : mRi p l e ({ frames := 0, cells := 0, slots := 0, locals := 0 } : Room) s m args below meth c Q cX12_type D cy ci h A0 .boolean o) (n : Nat) : ∀ (x1 : Int64) (x3 : Int32) (x4 : Int32) (I : Nat → Int32) (A : Nat → Nat → Int32) (H : Heap) (locs : List Loc) (ls : Array Slot), f_type_33 n x1 x3 x4 I A = some o → mH D cy ci h A0 s H locs I A → lv_has ls 7 [(0, .ref (h 0)), (1, .long x1), (3, .int x3), (4, .int x4)] → W p l e ({ frames := 0, cells := 0, slots := 0, locals := 0 } : Room) s m args below meth c H locs 0 0 Q (F0 m 33 ls []) := by
  induction n with
  | zero => intro x1 x3 x4 I A H locs ls hf; cases hf
  | succ n ih => intro x1 x3 x4 I A H locs ls hf hM hl; exact ws_type_33 X hret (self33 := f_type_33 n) ih hf hM hl
noncomputable def f_type_0 (x1 : Int64) (x3 : Int32) (I : Nat → Int32) (A : Nat → Nat → Int32) : Option (Int32 × MS) :=
  m_bnd (upd I 0 (0 : Int32)) (fun I1 =>
  m_if (x3 < (1 : Int32)) (
  f_type_28  I1 A
  ) (
  m_if ((8 : Int32) < x3) (
  f_type_28  I1 A
  ) (
  m_bnd ((I1 1) + x3) (fun v2 =>
  m_if (v2 ≤ (2000 : Int32)) (
  f_type_33 mFuel x1 x3 (0 : Int32) I1 A
  ) (
  f_type_28  I1 A
  ))
  )
  ))

set_option maxRecDepth 100000 in
set_option maxHeartbeats 4000000 in
theorem w_type_0 {p : Program} {l : Launch} {e : Env} {s : State} {m : MethodId} {args : Array Value} {below : List Frame} {meth : Method} {c : Code} {Q : State → Prop} {D : va_G} {cy ci : ClassId} {h : Nat → Nat} {A0 : Nat → Prop} {o : Int32 × MS} (X : CallFix p m c cX12_type 7 s args wsX12_type RX12) (hret : mRi p l e ({ frames := 0, cells := 0, slots := 0, locals := 0 } : Room) s m args below meth c Q cX12_type D cy ci h A0 .boolean o) {x1 : Int64} {x3 : Int32} {I : Nat → Int32} {A : Nat → Nat → Int32} {H : Heap} {locs : List Loc} {ls : Array Slot} (hf : f_type_0 x1 x3 I A = some o) (hM : mH D cy ci h A0 s H locs I A) (hl : lv_has ls 7 [(0, .ref (h 0)), (1, .long x1), (3, .int x3)]) : W p l e ({ frames := 0, cells := 0, slots := 0, locals := 0 } : Room) s m args below meth c H locs 0 0 Q (F0 m 0 ls []) := by
  obtain ⟨hx, hb, hml, hown, hts⟩ := id X
  unfold f_type_0 at hf
  refine lv_aload_n hx hb dX12_type_0 rfl (lv_at hl 0 rfl) ?_
  refine lv_iconst (v := (0 : Int32)) hx hb dX12_type_1 (by decide) ?_
  refine m_put X hw_type hM 0 (by decide) fl_type_0 mi_0 rfl (tyX12_ok 0 (by decide)) dX12_type_2 (fun H locs hM => ?_)
  obtain ⟨I1, ev, hf⟩ := m_bndE hf
  replace hM := m_hI hM ev
  clear ev
  refine lv_iload_n hx hb dX12_type_5 rfl (lv_at hl 2 rfl) ?_
  refine lv_iconst (v := (1 : Int32)) hx hb dX12_type_6 (by decide) ?_
  refine lv_icmp_lt (tgt := 28) hx hb dX12_type_7 (by decide) (fun cc1 => ?_) (fun cc1 => ?_)
  · replace hf := m_ifT hf cc1
    exact w_type_28 X hret hf hM (lv_sub hl [] rfl)
  · replace hf := m_ifF hf cc1
    refine lv_iload_n hx hb dX12_type_10 rfl (lv_at hl 2 rfl) ?_
    refine lv_bipush (v := (8 : Int32)) hx hb dX12_type_11 (by decide) ?_
    refine lv_icmp_gt (tgt := 28) hx hb dX12_type_13 (by decide) (fun cc1 => ?_) (fun cc1 => ?_)
    · replace hf := m_ifT hf cc1
      exact w_type_28 X hret hf hM (lv_sub hl [] rfl)
    · replace hf := m_ifF hf cc1
      refine lv_aload_n hx hb dX12_type_16 rfl (lv_at hl 0 rfl) ?_
      refine m_get (v := .int (I1 1)) X hw_type hM 1 (by decide) fl_type_1 rfl dX12_type_17 ?_
      refine lv_iload_n hx hb dX12_type_20 rfl (lv_at hl 2 rfl) ?_
      refine lv_iadd hx hb dX12_type_21 ?_
      obtain ⟨v2, ev, hf⟩ := m_bndE hf
      refine m_top ev ?_
      clear ev
      refine lv_sipush (v := (2000 : Int32)) hx hb dX12_type_22 (by decide) ?_
      refine lv_icmp_le (tgt := 30) hx hb dX12_type_25 (by decide) (fun cc1 => ?_) (fun cc1 => ?_)
      · replace hf := m_ifT hf cc1
        refine lv_iconst (v := (0 : Int32)) hx hb dX12_type_30 (by decide) ?_
        refine lv_istore (lv' := [(4, .int (0 : Int32)), (0, .ref (h 0)), (1, .long x1), (3, .int x3)]) hx hb dX12_type_31 hl (by decide) rfl (fun ls hl => ?_)
        exact w_type_33 X hret _ _ _ _ _ _ _ _ _ hf hM (lv_sub hl [1, 2, 3, 0] rfl)
      · replace hf := m_ifF hf cc1
        exact w_type_28 X hret hf hM (lv_sub hl [] rfl)
noncomputable def f_type (x1 : Int64) (x3 : Int32) (I : Nat → Int32) (A : Nat → Nat → Int32) : Option (Int32 × MS) := f_type_0 x1 x3 I A
theorem c_type {l : Launch} {D : va_G} {cy ci : ClassId} {h : Nat → Nat} {x1 : Int64} {x3 : Int32} {I : Nat → Int32} {A : Nat → Nat → Int32} {o : Int32 × MS} (hf : f_type x1 x3 I A = some o) : mMi l yX12_type wsX12_type ({ frames := 0, cells := 0, slots := 0, locals := 0 } : Room) [.ref (h 0), .long x1, .int x3] D cy ci h I A o :=
  m_entryI (cc := cX12_type) (maxL := 7) (by decide) rfl rfl (Nat.le_of_ble_eq_true rfl) (fun p e s m args below meth c A0 Q H locs ls X hret hM hl => w_type_0 X hret hf hM (lv_sub hl [0, 1, 2] rfl))
theorem hw_cut : ∀ w ∈ wsX120, w ∈ wsX12_cut := by decide +kernel
theorem fl_cut_0 : Cond.fieldLink RX12 99 "MoveTextsModel" "thrown" "I" ∈ wsX12_cut := by decide +kernel
theorem fl_cut_1 : Cond.fieldLink RX12 270 "MoveTextsModel" "typed" "I" ∈ wsX12_cut := by decide +kernel
theorem hd_cut : yX12_cut.cls = RX12 ∧ yX12_cut.cls ≠ "java/lang/invoke/MethodHandle" ∧ yX12_cut.cls ≠ "java/lang/invoke/VarHandle" ∧ (parseMethodDescriptor yX12_cut.desc).map (fun d => d.parameters.length) = some 1 := by decide +kernel
noncomputable def f_cut_17 (I : Nat → Int32) (A : Nat → Nat → Int32) : Option (Int32 × MS) :=
  m_chk (vp_nar .boolean (0 : Int32) = (0 : Int32)) (some ((0 : Int32), (I, A)))

set_option maxRecDepth 100000 in
set_option maxHeartbeats 4000000 in
theorem w_cut_17 {p : Program} {l : Launch} {e : Env} {s : State} {m : MethodId} {args : Array Value} {below : List Frame} {meth : Method} {c : Code} {Q : State → Prop} {D : va_G} {cy ci : ClassId} {h : Nat → Nat} {A0 : Nat → Prop} {o : Int32 × MS} (X : CallFix p m c cX12_cut 2 s args wsX12_cut RX12) (hret : mRi p l e ({ frames := 0, cells := 0, slots := 0, locals := 0 } : Room) s m args below meth c Q cX12_cut D cy ci h A0 .boolean o) {I : Nat → Int32} {A : Nat → Nat → Int32} {H : Heap} {locs : List Loc} {ls : Array Slot} (hf : f_cut_17  I A = some o) (hM : mH D cy ci h A0 s H locs I A) (hl : lv_has ls 2 []) : W p l e ({ frames := 0, cells := 0, slots := 0, locals := 0 } : Room) s m args below meth c H locs 0 0 Q (F0 m 17 ls []) := by
  obtain ⟨hx, hb, hml, hown, hts⟩ := id X
  unfold f_cut_17 at hf
  refine lv_iconst (v := (0 : Int32)) hx hb dX12_cut_17 (by decide) ?_
  obtain ⟨cd, hf⟩ := m_chkE hf
  cases hf
  exact hret H locs _ ls hM (m_nb cd) dX12_cut_18
noncomputable def f_cut_0 (x1 : Int32) (I : Nat → Int32) (A : Nat → Nat → Int32) : Option (Int32 × MS) :=
  m_bnd (upd I 0 (0 : Int32)) (fun I1 =>
  m_if (x1 < 0) (
  f_cut_17  I1 A
  ) (
  m_if (x1 ≤ (I1 1)) (
  m_bnd (upd I1 1 x1) (fun I2 =>
  m_chk (vp_nar .boolean (1 : Int32) = (1 : Int32)) (some ((1 : Int32), (I2, A))))
  ) (
  f_cut_17  I1 A
  )
  ))

set_option maxRecDepth 100000 in
set_option maxHeartbeats 4000000 in
theorem w_cut_0 {p : Program} {l : Launch} {e : Env} {s : State} {m : MethodId} {args : Array Value} {below : List Frame} {meth : Method} {c : Code} {Q : State → Prop} {D : va_G} {cy ci : ClassId} {h : Nat → Nat} {A0 : Nat → Prop} {o : Int32 × MS} (X : CallFix p m c cX12_cut 2 s args wsX12_cut RX12) (hret : mRi p l e ({ frames := 0, cells := 0, slots := 0, locals := 0 } : Room) s m args below meth c Q cX12_cut D cy ci h A0 .boolean o) {x1 : Int32} {I : Nat → Int32} {A : Nat → Nat → Int32} {H : Heap} {locs : List Loc} {ls : Array Slot} (hf : f_cut_0 x1 I A = some o) (hM : mH D cy ci h A0 s H locs I A) (hl : lv_has ls 2 [(0, .ref (h 0)), (1, .int x1)]) : W p l e ({ frames := 0, cells := 0, slots := 0, locals := 0 } : Room) s m args below meth c H locs 0 0 Q (F0 m 0 ls []) := by
  obtain ⟨hx, hb, hml, hown, hts⟩ := id X
  unfold f_cut_0 at hf
  refine lv_aload_n hx hb dX12_cut_0 rfl (lv_at hl 0 rfl) ?_
  refine lv_iconst (v := (0 : Int32)) hx hb dX12_cut_1 (by decide) ?_
  refine m_put X hw_cut hM 0 (by decide) fl_cut_0 mi_0 rfl (tyX12_ok 0 (by decide)) dX12_cut_2 (fun H locs hM => ?_)
  obtain ⟨I1, ev, hf⟩ := m_bndE hf
  replace hM := m_hI hM ev
  clear ev
  refine lv_iload_n hx hb dX12_cut_5 rfl (lv_at hl 1 rfl) ?_
  refine lv_if_lt (tgt := 17) hx hb dX12_cut_6 (by decide) (fun cc1 => ?_) (fun cc1 => ?_)
  · replace hf := m_ifT hf cc1
    exact w_cut_17 X hret hf hM (lv_sub hl [] rfl)
  · replace hf := m_ifF hf cc1
    refine lv_iload_n hx hb dX12_cut_9 rfl (lv_at hl 1 rfl) ?_
    refine lv_aload_n hx hb dX12_cut_10 rfl (lv_at hl 0 rfl) ?_
    refine m_get (v := .int (I1 1)) X hw_cut hM 1 (by decide) fl_cut_1 rfl dX12_cut_11 ?_
    refine lv_icmp_le (tgt := 19) hx hb dX12_cut_14 (by decide) (fun cc1 => ?_) (fun cc1 => ?_)
    · replace hf := m_ifT hf cc1
      refine lv_aload_n hx hb dX12_cut_19 rfl (lv_at hl 0 rfl) ?_
      refine lv_iload_n hx hb dX12_cut_20 rfl (lv_at hl 1 rfl) ?_
      refine m_put X hw_cut hM 1 (by decide) fl_cut_1 mi_1 rfl (tyX12_ok 1 (by decide)) dX12_cut_21 (fun H locs hM => ?_)
      obtain ⟨I2, ev, hf⟩ := m_bndE hf
      replace hM := m_hI hM ev
      clear ev
      refine lv_iconst (v := (1 : Int32)) hx hb dX12_cut_24 (by decide) ?_
      obtain ⟨cd, hf⟩ := m_chkE hf
      cases hf
      exact hret H locs _ ls hM (m_nb cd) dX12_cut_25
    · replace hf := m_ifF hf cc1
      exact w_cut_17 X hret hf hM (lv_sub hl [] rfl)
noncomputable def f_cut (x1 : Int32) (I : Nat → Int32) (A : Nat → Nat → Int32) : Option (Int32 × MS) := f_cut_0 x1 I A
theorem c_cut {l : Launch} {D : va_G} {cy ci : ClassId} {h : Nat → Nat} {x1 : Int32} {I : Nat → Int32} {A : Nat → Nat → Int32} {o : Int32 × MS} (hf : f_cut x1 I A = some o) : mMi l yX12_cut wsX12_cut ({ frames := 0, cells := 0, slots := 0, locals := 0 } : Room) [.ref (h 0), .int x1] D cy ci h I A o :=
  m_entryI (cc := cX12_cut) (maxL := 2) (by decide) rfl rfl (Nat.le_of_ble_eq_true rfl) (fun p e s m args below meth c A0 Q H locs ls X hret hM hl => w_cut_0 X hret hf hM (lv_sub hl [0, 1] rfl))
end
