theorem hw_findMoves : ∀ w ∈ wsX120, w ∈ wsX12_findMoves := by decide +kernel
theorem fl_findMoves_24 : Cond.fieldLink RX12 70 "MoveTextsModel" "men" "[I" ∈ wsX12_findMoves := by decide +kernel
theorem fl_findMoves_25 : Cond.fieldLink RX12 121 "MoveTextsModel" "side" "I" ∈ wsX12_findMoves := by decide +kernel
theorem fl_findMoves_32 : Cond.fieldLink RX12 79 "MoveTextsModel" "list" "[I" ∈ wsX12_findMoves := by decide +kernel
theorem fl_findMoves_33 : Cond.fieldLink RX12 170 "MoveTextsModel" "moves" "I" ∈ wsX12_findMoves := by decide +kernel
theorem hd_findMoves : yX12_findMoves.cls = RX12 ∧ yX12_findMoves.cls ≠ "java/lang/invoke/MethodHandle" ∧ yX12_findMoves.cls ≠ "java/lang/invoke/VarHandle" ∧ (parseMethodDescriptor yX12_findMoves.desc).map (fun d => d.parameters.length) = some 0 := by decide +kernel
def f_findMoves_163 (self7 : Int32 → (Nat → Int32) → (Nat → Nat → Int32) → Option (Int32 × MS)) (x1 : Int32) (I : Nat → Int32) (A : Nat → Nat → Int32) : Option (Int32 × MS) :=
  m_bnd (x1 + (1 : Int32)) (fun v1 =>
  self7 v1 I A)

set_option maxRecDepth 100000 in
set_option maxHeartbeats 4000000 in
theorem w_findMoves_163 {p : Program} {l : Launch} {e : Env} {s : State} {m : MethodId} {args : Array Value} {below : List Frame} {meth : Method} {c : Code} {Q : State → Prop} {D : va_G} {cy ci : ClassId} {h : Nat → Nat} {A0 : Nat → Prop} {o : Int32 × MS} (X : CallFix p m c cX12_findMoves 6 s args wsX12_findMoves RX12) (hret : mRv p l e ({ frames := 5, cells := 0, slots := 0, locals := 132 } : Room) s m args below meth c Q cX12_findMoves D cy ci h A0 o) {self7 : Int32 → (Nat → Int32) → (Nat → Nat → Int32) → Option (Int32 × MS)} (hself7 : ∀ (x1 : Int32) (I : Nat → Int32) (A : Nat → Nat → Int32) (H : Heap) (locs : List Loc) (ls : Array Slot), self7 x1 I A = some o → mH D cy ci h A0 s H locs I A → lv_has ls 6 [(0, .ref (h 0)), (1, .int x1)] → W p l e ({ frames := 5, cells := 0, slots := 0, locals := 132 } : Room) s m args below meth c H locs 0 0 Q (F0 m 7 ls [])) {x1 : Int32} {I : Nat → Int32} {A : Nat → Nat → Int32} {H : Heap} {locs : List Loc} {ls : Array Slot} (hf : f_findMoves_163 self7 x1 I A = some o) (hM : mH D cy ci h A0 s H locs I A) (hl : lv_has ls 6 [(0, .ref (h 0)), (1, .int x1)]) : W p l e ({ frames := 5, cells := 0, slots := 0, locals := 132 } : Room) s m args below meth c H locs 0 0 Q (F0 m 163 ls []) := by
  obtain ⟨hx, hb, hml, hown, hts⟩ := id X
  unfold f_findMoves_163 at hf
  obtain ⟨v1, ev, hf⟩ := m_bndE hf
  refine lv_iinc (v := v1) (lv' := [(1, .int v1), (0, .ref (h 0))]) hx hb dX12_findMoves_163 hl (k := 1) rfl (by rw [ev]; rfl) (by decide) rfl (fun ls hl => ?_)
  clear ev
  refine lv_goto (tgt := 7) hx hb dX12_findMoves_166 (by decide) ?_
  exact hself7 _ _ _ _ _ _ hf hM (lv_sub hl [1, 0] rfl)
def f_findMoves_157 (self7 : Int32 → (Nat → Int32) → (Nat → Nat → Int32) → Option (Int32 × MS)) (self15 : Int32 → Int32 → (Nat → Int32) → (Nat → Nat → Int32) → Option (Int32 × MS)) (x1 : Int32) (x2 : Int32) (I : Nat → Int32) (A : Nat → Nat → Int32) : Option (Int32 × MS) :=
  m_bnd (x2 + (1 : Int32)) (fun v1 =>
  self15 x1 v1 I A)

set_option maxRecDepth 100000 in
set_option maxHeartbeats 4000000 in
theorem w_findMoves_157 {p : Program} {l : Launch} {e : Env} {s : State} {m : MethodId} {args : Array Value} {below : List Frame} {meth : Method} {c : Code} {Q : State → Prop} {D : va_G} {cy ci : ClassId} {h : Nat → Nat} {A0 : Nat → Prop} {o : Int32 × MS} (X : CallFix p m c cX12_findMoves 6 s args wsX12_findMoves RX12) (hret : mRv p l e ({ frames := 5, cells := 0, slots := 0, locals := 132 } : Room) s m args below meth c Q cX12_findMoves D cy ci h A0 o) {self7 : Int32 → (Nat → Int32) → (Nat → Nat → Int32) → Option (Int32 × MS)} (hself7 : ∀ (x1 : Int32) (I : Nat → Int32) (A : Nat → Nat → Int32) (H : Heap) (locs : List Loc) (ls : Array Slot), self7 x1 I A = some o → mH D cy ci h A0 s H locs I A → lv_has ls 6 [(0, .ref (h 0)), (1, .int x1)] → W p l e ({ frames := 5, cells := 0, slots := 0, locals := 132 } : Room) s m args below meth c H locs 0 0 Q (F0 m 7 ls [])) {self15 : Int32 → Int32 → (Nat → Int32) → (Nat → Nat → Int32) → Option (Int32 × MS)} (hself15 : ∀ (x1 : Int32) (x2 : Int32) (I : Nat → Int32) (A : Nat → Nat → Int32) (H : Heap) (locs : List Loc) (ls : Array Slot), self15 x1 x2 I A = some o → mH D cy ci h A0 s H locs I A → lv_has ls 6 [(0, .ref (h 0)), (1, .int x1), (2, .int x2)] → W p l e ({ frames := 5, cells := 0, slots := 0, locals := 132 } : Room) s m args below meth c H locs 0 0 Q (F0 m 15 ls [])) {x1 : Int32} {x2 : Int32} {I : Nat → Int32} {A : Nat → Nat → Int32} {H : Heap} {locs : List Loc} {ls : Array Slot} (hf : f_findMoves_157 self7 self15 x1 x2 I A = some o) (hM : mH D cy ci h A0 s H locs I A) (hl : lv_has ls 6 [(0, .ref (h 0)), (1, .int x1), (2, .int x2)]) : W p l e ({ frames := 5, cells := 0, slots := 0, locals := 132 } : Room) s m args below meth c H locs 0 0 Q (F0 m 157 ls []) := by
  obtain ⟨hx, hb, hml, hown, hts⟩ := id X
  unfold f_findMoves_157 at hf
  obtain ⟨v1, ev, hf⟩ := m_bndE hf
  refine lv_iinc (v := v1) (lv' := [(2, .int v1), (0, .ref (h 0)), (1, .int x1)]) hx hb dX12_findMoves_157 hl (k := 2) rfl (by rw [ev]; rfl) (by decide) rfl (fun ls hl => ?_)
  clear ev
  refine lv_goto (tgt := 15) hx hb dX12_findMoves_160 (by decide) ?_
  exact hself15 _ _ _ _ _ _ _ hf hM (lv_sub hl [1, 2, 0] rfl)
def f_findMoves_116 (self7 : Int32 → (Nat → Int32) → (Nat → Nat → Int32) → Option (Int32 × MS)) (self15 : Int32 → Int32 → (Nat → Int32) → (Nat → Nat → Int32) → Option (Int32 × MS)) (self100 : Int32 → Int32 → Int32 → Int32 → Int32 → (Nat → Int32) → (Nat → Nat → Int32) → Option (Int32 × MS)) (x1 : Int32) (x2 : Int32) (x3 : Int32) (x4 : Int32) (x5 : Int32) (t0 : Int32) (t1 : Int32) (I : Nat → Int32) (A : Nat → Nat → Int32) : Option (Int32 × MS) :=
  m_if (t0 < t1) (
  f_findMoves_157 self7 self15 x1 x2 I A
  ) (
  m_bnd ((64 : Int32) * x2) (fun v1 =>
  m_bnd (x1 + v1) (fun v2 =>
  m_bnd ((4096 : Int32) * x5) (fun v3 =>
  m_bnd (v2 + v3) (fun v4 =>
  m_chk (¬ ((I 33) < 0 ∨ 2048 ≤ ((I 33)).toNatClampNeg)) (
  m_bnd (va_up A 32 (upd (A 32) ((I 33)).toNatClampNeg v4)) (fun A5 =>
  m_bnd ((I 33) + (1 : Int32)) (fun v6 =>
  m_bnd (upd I 33 v6) (fun I7 =>
  m_bnd (x5 + (1 : Int32)) (fun v8 =>
  self100 x1 x2 x3 x4 v8 I7 A5)))))))))
  )

set_option maxRecDepth 100000 in
set_option maxHeartbeats 4000000 in
theorem w_findMoves_116 {p : Program} {l : Launch} {e : Env} {s : State} {m : MethodId} {args : Array Value} {below : List Frame} {meth : Method} {c : Code} {Q : State → Prop} {D : va_G} {cy ci : ClassId} {h : Nat → Nat} {A0 : Nat → Prop} {o : Int32 × MS} (X : CallFix p m c cX12_findMoves 6 s args wsX12_findMoves RX12) (hret : mRv p l e ({ frames := 5, cells := 0, slots := 0, locals := 132 } : Room) s m args below meth c Q cX12_findMoves D cy ci h A0 o) {self7 : Int32 → (Nat → Int32) → (Nat → Nat → Int32) → Option (Int32 × MS)} (hself7 : ∀ (x1 : Int32) (I : Nat → Int32) (A : Nat → Nat → Int32) (H : Heap) (locs : List Loc) (ls : Array Slot), self7 x1 I A = some o → mH D cy ci h A0 s H locs I A → lv_has ls 6 [(0, .ref (h 0)), (1, .int x1)] → W p l e ({ frames := 5, cells := 0, slots := 0, locals := 132 } : Room) s m args below meth c H locs 0 0 Q (F0 m 7 ls [])) {self15 : Int32 → Int32 → (Nat → Int32) → (Nat → Nat → Int32) → Option (Int32 × MS)} (hself15 : ∀ (x1 : Int32) (x2 : Int32) (I : Nat → Int32) (A : Nat → Nat → Int32) (H : Heap) (locs : List Loc) (ls : Array Slot), self15 x1 x2 I A = some o → mH D cy ci h A0 s H locs I A → lv_has ls 6 [(0, .ref (h 0)), (1, .int x1), (2, .int x2)] → W p l e ({ frames := 5, cells := 0, slots := 0, locals := 132 } : Room) s m args below meth c H locs 0 0 Q (F0 m 15 ls [])) {self100 : Int32 → Int32 → Int32 → Int32 → Int32 → (Nat → Int32) → (Nat → Nat → Int32) → Option (Int32 × MS)} (hself100 : ∀ (x1 : Int32) (x2 : Int32) (x3 : Int32) (x4 : Int32) (x5 : Int32) (I : Nat → Int32) (A : Nat → Nat → Int32) (H : Heap) (locs : List Loc) (ls : Array Slot), self100 x1 x2 x3 x4 x5 I A = some o → mH D cy ci h A0 s H locs I A → lv_has ls 6 [(0, .ref (h 0)), (1, .int x1), (2, .int x2), (3, .int x3), (4, .int x4), (5, .int x5)] → W p l e ({ frames := 5, cells := 0, slots := 0, locals := 132 } : Room) s m args below meth c H locs 0 0 Q (F0 m 100 ls [])) {x1 : Int32} {x2 : Int32} {x3 : Int32} {x4 : Int32} {x5 : Int32} {t0 : Int32} {t1 : Int32} {I : Nat → Int32} {A : Nat → Nat → Int32} {H : Heap} {locs : List Loc} {ls : Array Slot} (hf : f_findMoves_116 self7 self15 self100 x1 x2 x3 x4 x5 t0 t1 I A = some o) (hM : mH D cy ci h A0 s H locs I A) (hl : lv_has ls 6 [(0, .ref (h 0)), (1, .int x1), (2, .int x2), (3, .int x3), (4, .int x4), (5, .int x5)]) : W p l e ({ frames := 5, cells := 0, slots := 0, locals := 132 } : Room) s m args below meth c H locs 0 0 Q (F0 m 116 ls [.int t0, .int t1]) := by
  obtain ⟨hx, hb, hml, hown, hts⟩ := id X
  unfold f_findMoves_116 at hf
  refine lv_icmp_gt (tgt := 157) hx hb dX12_findMoves_116 (by decide) (fun cc1 => ?_) (fun cc1 => ?_)
  · replace hf := m_ifT hf cc1
    exact w_findMoves_157 X hret hself7 hself15 hf hM (lv_sub hl [0, 1, 2] rfl)
  · replace hf := m_ifF hf cc1
    refine lv_aload_n hx hb dX12_findMoves_119 rfl (lv_at hl 0 rfl) ?_
    refine m_get (v := .ref (h 32)) X hw_findMoves hM 32 (by decide) fl_findMoves_32 rfl dX12_findMoves_120 ?_
    refine lv_aload_n hx hb dX12_findMoves_123 rfl (lv_at hl 0 rfl) ?_
    refine m_get (v := .int (I 33)) X hw_findMoves hM 33 (by decide) fl_findMoves_33 rfl dX12_findMoves_124 ?_
    refine lv_iload_n hx hb dX12_findMoves_127 rfl (lv_at hl 1 rfl) ?_
    refine lv_bipush (v := (64 : Int32)) hx hb dX12_findMoves_128 (by decide) ?_
    refine lv_iload_n hx hb dX12_findMoves_130 rfl (lv_at hl 2 rfl) ?_
    refine lv_imul hx hb dX12_findMoves_131 ?_
    obtain ⟨v1, ev, hf⟩ := m_bndE hf
    refine m_top ev ?_
    clear ev
    refine lv_iadd hx hb dX12_findMoves_132 ?_
    obtain ⟨v2, ev, hf⟩ := m_bndE hf
    refine m_top ev ?_
    clear ev
    refine lv_sipush (v := (4096 : Int32)) hx hb dX12_findMoves_133 (by decide) ?_
    refine lv_iload hx hb dX12_findMoves_136 (lv_at hl 5 rfl) ?_
    refine lv_imul hx hb dX12_findMoves_138 ?_
    obtain ⟨v3, ev, hf⟩ := m_bndE hf
    refine m_top ev ?_
    clear ev
    refine lv_iadd hx hb dX12_findMoves_139 ?_
    obtain ⟨v4, ev, hf⟩ := m_bndE hf
    refine m_top ev ?_
    clear ev
    obtain ⟨cd, hf⟩ := m_chkE hf
    refine m_iast X hM 32 23 2048 rfl ma_32 cd dX12_findMoves_140 (fun H locs hM => ?_)
    clear cd
    obtain ⟨A5, ev, hf⟩ := m_bndE hf
    replace hM := m_hA hM ev
    clear ev
    refine lv_aload_n hx hb dX12_findMoves_141 rfl (lv_at hl 0 rfl) ?_
    refine lv_dup hx hb dX12_findMoves_142 rfl ?_
    refine m_get (v := .int (I 33)) X hw_findMoves hM 33 (by decide) fl_findMoves_33 rfl dX12_findMoves_143 ?_
    refine lv_iconst (v := (1 : Int32)) hx hb dX12_findMoves_146 (by decide) ?_
    refine lv_iadd hx hb dX12_findMoves_147 ?_
    obtain ⟨v6, ev, hf⟩ := m_bndE hf
    refine m_top ev ?_
    clear ev
    refine m_put X hw_findMoves hM 33 (by decide) fl_findMoves_33 mi_33 rfl (tyX12_ok 33 (by decide)) dX12_findMoves_148 (fun H locs hM => ?_)
    obtain ⟨I7, ev, hf⟩ := m_bndE hf
    replace hM := m_hI hM ev
    clear ev
    obtain ⟨v8, ev, hf⟩ := m_bndE hf
    refine lv_iinc (v := v8) (lv' := [(5, .int v8), (0, .ref (h 0)), (1, .int x1), (2, .int x2), (3, .int x3), (4, .int x4)]) hx hb dX12_findMoves_151 hl (k := 5) rfl (by rw [ev]; rfl) (by decide) rfl (fun ls hl => ?_)
    clear ev
    refine lv_goto (tgt := 100) hx hb dX12_findMoves_154 (by decide) ?_
    exact hself100 _ _ _ _ _ _ _ _ _ _ hf hM (lv_sub hl [1, 2, 3, 4, 5, 0] rfl)
def f_findMoves_100s (self7 : Int32 → (Nat → Int32) → (Nat → Nat → Int32) → Option (Int32 × MS)) (self15 : Int32 → Int32 → (Nat → Int32) → (Nat → Nat → Int32) → Option (Int32 × MS)) (self100 : Int32 → Int32 → Int32 → Int32 → Int32 → (Nat → Int32) → (Nat → Nat → Int32) → Option (Int32 × MS)) (x1 : Int32) (x2 : Int32) (x3 : Int32) (x4 : Int32) (x5 : Int32) (I : Nat → Int32) (A : Nat → Nat → Int32) : Option (Int32 × MS) :=
  m_if (x4 = 0) (
  f_findMoves_157 self7 self15 x1 x2 I A
  ) (
  m_if (x3 = 0) (
  f_findMoves_116 self7 self15 self100 x1 x2 x3 x4 x5 (0 : Int32) x5 I A
  ) (
  f_findMoves_116 self7 self15 self100 x1 x2 x3 x4 x5 (5 : Int32) x5 I A
  )
  )

set_option maxRecDepth 100000 in
set_option maxHeartbeats 4000000 in
theorem ws_findMoves_100 {p : Program} {l : Launch} {e : Env} {s : State} {m : MethodId} {args : Array Value} {below : List Frame} {meth : Method} {c : Code} {Q : State → Prop} {D : va_G} {cy ci : ClassId} {h : Nat → Nat} {A0 : Nat → Prop} {o : Int32 × MS} (X : CallFix p m c cX12_findMoves 6 s args wsX12_findMoves RX12) (hret : mRv p l e ({ frames := 5, cells := 0, slots := 0, locals := 132 } : Room) s m args below meth c Q cX12_findMoves D cy ci h A0 o) {self7 : Int32 → (Nat → Int32) → (Nat → Nat → Int32) → Option (Int32 × MS)} (hself7 : ∀ (x1 : Int32) (I : Nat → Int32) (A : Nat → Nat → Int32) (H : Heap) (locs : List Loc) (ls : Array Slot), self7 x1 I A = some o → mH D cy ci h A0 s H locs I A → lv_has ls 6 [(0, .ref (h 0)), (1, .int x1)] → W p l e ({ frames := 5, cells := 0, slots := 0, locals := 132 } : Room) s m args below meth c H locs 0 0 Q (F0 m 7 ls [])) {self15 : Int32 → Int32 → (Nat → Int32) → (Nat → Nat → Int32) → Option (Int32 × MS)} (hself15 : ∀ (x1 : Int32) (x2 : Int32) (I : Nat → Int32) (A : Nat → Nat → Int32) (H : Heap) (locs : List Loc) (ls : Array Slot), self15 x1 x2 I A = some o → mH D cy ci h A0 s H locs I A → lv_has ls 6 [(0, .ref (h 0)), (1, .int x1), (2, .int x2)] → W p l e ({ frames := 5, cells := 0, slots := 0, locals := 132 } : Room) s m args below meth c H locs 0 0 Q (F0 m 15 ls [])) {self100 : Int32 → Int32 → Int32 → Int32 → Int32 → (Nat → Int32) → (Nat → Nat → Int32) → Option (Int32 × MS)} (hself100 : ∀ (x1 : Int32) (x2 : Int32) (x3 : Int32) (x4 : Int32) (x5 : Int32) (I : Nat → Int32) (A : Nat → Nat → Int32) (H : Heap) (locs : List Loc) (ls : Array Slot), self100 x1 x2 x3 x4 x5 I A = some o → mH D cy ci h A0 s H locs I A → lv_has ls 6 [(0, .ref (h 0)), (1, .int x1), (2, .int x2), (3, .int x3), (4, .int x4), (5, .int x5)] → W p l e ({ frames := 5, cells := 0, slots := 0, locals := 132 } : Room) s m args below meth c H locs 0 0 Q (F0 m 100 ls [])) {x1 : Int32} {x2 : Int32} {x3 : Int32} {x4 : Int32} {x5 : Int32} {I : Nat → Int32} {A : Nat → Nat → Int32} {H : Heap} {locs : List Loc} {ls : Array Slot} (hf : f_findMoves_100s self7 self15 self100 x1 x2 x3 x4 x5 I A = some o) (hM : mH D cy ci h A0 s H locs I A) (hl : lv_has ls 6 [(0, .ref (h 0)), (1, .int x1), (2, .int x2), (3, .int x3), (4, .int x4), (5, .int x5)]) : W p l e ({ frames := 5, cells := 0, slots := 0, locals := 132 } : Room) s m args below meth c H locs 0 0 Q (F0 m 100 ls []) := by
  obtain ⟨hx, hb, hml, hown, hts⟩ := id X
  unfold f_findMoves_100s at hf
  refine lv_iload hx hb dX12_findMoves_100 (lv_at hl 4 rfl) ?_
  refine lv_if_eq (tgt := 157) hx hb dX12_findMoves_102 (by decide) (fun cc1 => ?_) (fun cc1 => ?_)
  · replace hf := m_ifT hf cc1
    exact w_findMoves_157 X hret hself7 hself15 hf hM (lv_sub hl [0, 1, 2] rfl)
  · replace hf := m_ifF hf cc1
    refine lv_iload hx hb dX12_findMoves_105 (lv_at hl 5 rfl) ?_
    refine lv_iload_n hx hb dX12_findMoves_107 rfl (lv_at hl 3 rfl) ?_
    refine lv_if_eq (tgt := 115) hx hb dX12_findMoves_108 (by decide) (fun cc1 => ?_) (fun cc1 => ?_)
    · replace hf := m_ifT hf cc1
      refine lv_iconst (v := (0 : Int32)) hx hb dX12_findMoves_115 (by decide) ?_
      exact w_findMoves_116 X hret hself7 hself15 hself100 hf hM (lv_sub hl [0, 1, 2, 3, 4, 5] rfl)
    · replace hf := m_ifF hf cc1
      refine lv_iconst (v := (5 : Int32)) hx hb dX12_findMoves_111 (by decide) ?_
      refine lv_goto (tgt := 116) hx hb dX12_findMoves_112 (by decide) ?_
      exact w_findMoves_116 X hret hself7 hself15 hself100 hf hM (lv_sub hl [0, 1, 2, 3, 4, 5] rfl)
def f_findMoves_100 (self7 : Int32 → (Nat → Int32) → (Nat → Nat → Int32) → Option (Int32 × MS)) (self15 : Int32 → Int32 → (Nat → Int32) → (Nat → Nat → Int32) → Option (Int32 × MS)) : Nat → Int32 → Int32 → Int32 → Int32 → Int32 → (Nat → Int32) → (Nat → Nat → Int32) → Option (Int32 × MS)
  | 0 => fun _ _ _ _ _ _ _ => none
  | n + 1 => f_findMoves_100s self7 self15 (f_findMoves_100 self7 self15 n)
theorem w_findMoves_100 {p : Program} {l : Launch} {e : Env} {s : State} {m : MethodId} {args : Array Value} {below : List Frame} {meth : Method} {c : Code} {Q : State → Prop} {D : va_G} {cy ci : ClassId} {h : Nat → Nat} {A0 : Nat → Prop} {o : Int32 × MS} (X : CallFix p m c cX12_findMoves 6 s args wsX12_findMoves RX12) (hret : mRv p l e ({ frames := 5, cells := 0, slots := 0, locals := 132 } : Room) s m args below meth c Q cX12_findMoves D cy ci h A0 o) {self7 : Int32 → (Nat → Int32) → (Nat → Nat → Int32) → Option (Int32 × MS)} (hself7 : ∀ (x1 : Int32) (I : Nat → Int32) (A : Nat → Nat → Int32) (H : Heap) (locs : List Loc) (ls : Array Slot), self7 x1 I A = some o → mH D cy ci h A0 s H locs I A → lv_has ls 6 [(0, .ref (h 0)), (1, .int x1)] → W p l e ({ frames := 5, cells := 0, slots := 0, locals := 132 } : Room) s m args below meth c H locs 0 0 Q (F0 m 7 ls [])) {self15 : Int32 → Int32 → (Nat → Int32) → (Nat → Nat → Int32) → Option (Int32 × MS)} (hself15 : ∀ (x1 : Int32) (x2 : Int32) (I : Nat → Int32) (A : Nat → Nat → Int32) (H : Heap) (locs : List Loc) (ls : Array Slot), self15 x1 x2 I A = some o → mH D cy ci h A0 s H locs I A → lv_has ls 6 [(0, .ref (h 0)), (1, .int x1), (2, .int x2)] → W p l e ({ frames := 5, cells := 0, slots := 0, locals := 132 } : Room) s m args below meth c H locs 0 0 Q (F0 m 15 ls [])) (n : Nat) : ∀ (x1 : Int32) (x2 : Int32) (x3 : Int32) (x4 : Int32) (x5 : Int32) (I : Nat → Int32) (A : Nat → Nat → Int32) (H : Heap) (locs : List Loc) (ls : Array Slot), f_findMoves_100 self7 self15 n x1 x2 x3 x4 x5 I A = some o → mH D cy ci h A0 s H locs I A → lv_has ls 6 [(0, .ref (h 0)), (1, .int x1), (2, .int x2), (3, .int x3), (4, .int x4), (5, .int x5)] → W p l e ({ frames := 5, cells := 0, slots := 0, locals := 132 } : Room) s m args below meth c H locs 0 0 Q (F0 m 100 ls []) := by
  induction n with
  | zero => intro x1 x2 x3 x4 x5 I A H locs ls hf; cases hf
  | succ n ih => intro x1 x2 x3 x4 x5 I A H locs ls hf hM hl; exact ws_findMoves_100 X hret hself7 hself15 (self100 := f_findMoves_100 self7 self15 n) ih hf hM hl
def f_findMoves_98 (self7 : Int32 → (Nat → Int32) → (Nat → Nat → Int32) → Option (Int32 × MS)) (self15 : Int32 → Int32 → (Nat → Int32) → (Nat → Nat → Int32) → Option (Int32 × MS)) (x1 : Int32) (x2 : Int32) (x3 : Int32) (x4 : Int32) (t0 : Int32) (I : Nat → Int32) (A : Nat → Nat → Int32) : Option (Int32 × MS) :=
  f_findMoves_100 self7 self15 mFuel x1 x2 x3 x4 t0 I A

set_option maxRecDepth 100000 in
set_option maxHeartbeats 4000000 in
theorem w_findMoves_98 {p : Program} {l : Launch} {e : Env} {s : State} {m : MethodId} {args : Array Value} {below : List Frame} {meth : Method} {c : Code} {Q : State → Prop} {D : va_G} {cy ci : ClassId} {h : Nat → Nat} {A0 : Nat → Prop} {o : Int32 × MS} (X : CallFix p m c cX12_findMoves 6 s args wsX12_findMoves RX12) (hret : mRv p l e ({ frames := 5, cells := 0, slots := 0, locals := 132 } : Room) s m args below meth c Q cX12_findMoves D cy ci h A0 o) {self7 : Int32 → (Nat → Int32) → (Nat → Nat → Int32) → Option (Int32 × MS)} (hself7 : ∀ (x1 : Int32) (I : Nat → Int32) (A : Nat → Nat → Int32) (H : Heap) (locs : List Loc) (ls : Array Slot), self7 x1 I A = some o → mH D cy ci h A0 s H locs I A → lv_has ls 6 [(0, .ref (h 0)), (1, .int x1)] → W p l e ({ frames := 5, cells := 0, slots := 0, locals := 132 } : Room) s m args below meth c H locs 0 0 Q (F0 m 7 ls [])) {self15 : Int32 → Int32 → (Nat → Int32) → (Nat → Nat → Int32) → Option (Int32 × MS)} (hself15 : ∀ (x1 : Int32) (x2 : Int32) (I : Nat → Int32) (A : Nat → Nat → Int32) (H : Heap) (locs : List Loc) (ls : Array Slot), self15 x1 x2 I A = some o → mH D cy ci h A0 s H locs I A → lv_has ls 6 [(0, .ref (h 0)), (1, .int x1), (2, .int x2)] → W p l e ({ frames := 5, cells := 0, slots := 0, locals := 132 } : Room) s m args below meth c H locs 0 0 Q (F0 m 15 ls [])) {x1 : Int32} {x2 : Int32} {x3 : Int32} {x4 : Int32} {t0 : Int32} {I : Nat → Int32} {A : Nat → Nat → Int32} {H : Heap} {locs : List Loc} {ls : Array Slot} (hf : f_findMoves_98 self7 self15 x1 x2 x3 x4 t0 I A = some o) (hM : mH D cy ci h A0 s H locs I A) (hl : lv_has ls 6 [(0, .ref (h 0)), (1, .int x1), (2, .int x2), (3, .int x3), (4, .int x4)]) : W p l e ({ frames := 5, cells := 0, slots := 0, locals := 132 } : Room) s m args below meth c H locs 0 0 Q (F0 m 98 ls [.int t0]) := by
  obtain ⟨hx, hb, hml, hown, hts⟩ := id X
  unfold f_findMoves_98 at hf
  refine lv_istore (lv' := [(5, .int t0), (0, .ref (h 0)), (1, .int x1), (2, .int x2), (3, .int x3), (4, .int x4)]) hx hb dX12_findMoves_98 hl (by decide) rfl (fun ls hl => ?_)
  exact w_findMoves_100 X hret hself7 hself15 _ _ _ _ _ _ _ _ _ _ _ hf hM (lv_sub hl [1, 2, 3, 4, 5, 0] rfl)
def f_findMoves_76 (self7 : Int32 → (Nat → Int32) → (Nat → Nat → Int32) → Option (Int32 × MS)) (self15 : Int32 → Int32 → (Nat → Int32) → (Nat → Nat → Int32) → Option (Int32 × MS)) (x1 : Int32) (x2 : Int32) (t0 : Int32) (I : Nat → Int32) (A : Nat → Nat → Int32) : Option (Int32 × MS) :=
  m_bnd ((64 : Int32) * x2) (fun v1 =>
  m_bnd (x1 + v1) (fun v2 =>
  m_cl (f_isSafe v2 I A) (fun r3 Ic3 Ac3 =>
  m_if (t0 = 0) (
  f_findMoves_98 self7 self15 x1 x2 t0 r3 (0 : Int32) Ic3 Ac3
  ) (
  f_findMoves_98 self7 self15 x1 x2 t0 r3 (2 : Int32) Ic3 Ac3
  ))))

set_option maxRecDepth 100000 in
set_option maxHeartbeats 4000000 in
theorem w_findMoves_76 {p : Program} {l : Launch} {e : Env} {s : State} {m : MethodId} {args : Array Value} {below : List Frame} {meth : Method} {c : Code} {Q : State → Prop} {D : va_G} {cy ci : ClassId} {h : Nat → Nat} {A0 : Nat → Prop} {o : Int32 × MS} (X : CallFix p m c cX12_findMoves 6 s args wsX12_findMoves RX12) (hret : mRv p l e ({ frames := 5, cells := 0, slots := 0, locals := 132 } : Room) s m args below meth c Q cX12_findMoves D cy ci h A0 o) {self7 : Int32 → (Nat → Int32) → (Nat → Nat → Int32) → Option (Int32 × MS)} (hself7 : ∀ (x1 : Int32) (I : Nat → Int32) (A : Nat → Nat → Int32) (H : Heap) (locs : List Loc) (ls : Array Slot), self7 x1 I A = some o → mH D cy ci h A0 s H locs I A → lv_has ls 6 [(0, .ref (h 0)), (1, .int x1)] → W p l e ({ frames := 5, cells := 0, slots := 0, locals := 132 } : Room) s m args below meth c H locs 0 0 Q (F0 m 7 ls [])) {self15 : Int32 → Int32 → (Nat → Int32) → (Nat → Nat → Int32) → Option (Int32 × MS)} (hself15 : ∀ (x1 : Int32) (x2 : Int32) (I : Nat → Int32) (A : Nat → Nat → Int32) (H : Heap) (locs : List Loc) (ls : Array Slot), self15 x1 x2 I A = some o → mH D cy ci h A0 s H locs I A → lv_has ls 6 [(0, .ref (h 0)), (1, .int x1), (2, .int x2)] → W p l e ({ frames := 5, cells := 0, slots := 0, locals := 132 } : Room) s m args below meth c H locs 0 0 Q (F0 m 15 ls [])) {x1 : Int32} {x2 : Int32} {t0 : Int32} {I : Nat → Int32} {A : Nat → Nat → Int32} {H : Heap} {locs : List Loc} {ls : Array Slot} (hf : f_findMoves_76 self7 self15 x1 x2 t0 I A = some o) (hM : mH D cy ci h A0 s H locs I A) (hl : lv_has ls 6 [(0, .ref (h 0)), (1, .int x1), (2, .int x2)]) : W p l e ({ frames := 5, cells := 0, slots := 0, locals := 132 } : Room) s m args below meth c H locs 0 0 Q (F0 m 76 ls [.int t0]) := by
  obtain ⟨hx, hb, hml, hown, hts⟩ := id X
  unfold f_findMoves_76 at hf
  refine lv_istore_n (lv' := [(3, .int t0), (0, .ref (h 0)), (1, .int x1), (2, .int x2)]) hx hb dX12_findMoves_76 rfl hl (by decide) rfl (fun ls hl => ?_)
  refine lv_aload_n hx hb dX12_findMoves_77 rfl (lv_at hl 1 rfl) ?_
  refine lv_iload_n hx hb dX12_findMoves_78 rfl (lv_at hl 2 rfl) ?_
  refine lv_bipush (v := (64 : Int32)) hx hb dX12_findMoves_79 (by decide) ?_
  refine lv_iload_n hx hb dX12_findMoves_81 rfl (lv_at hl 3 rfl) ?_
  refine lv_imul hx hb dX12_findMoves_82 ?_
  obtain ⟨v1, ev, hf⟩ := m_bndE hf
  refine m_top ev ?_
  clear ev
  refine lv_iadd hx hb dX12_findMoves_83 ?_
  obtain ⟨v2, ev, hf⟩ := m_bndE hf
  refine m_top ev ?_
  clear ev
  obtain ⟨o3, ho, hf⟩ := m_clE hf
  refine m_callVi X hM (c_isSafe ho) gX12_findMoves_X12_isSafe rfl ⟨rfl, rfl⟩ hd_isSafe ⟨Nat.le_of_ble_eq_true rfl, Nat.le_of_ble_eq_true rfl⟩ rfl hl.1 rfl (Nat.le_of_ble_eq_true rfl) dX12_findMoves_84 (fun H locs hM => ?_)
  clear ho
  refine lv_istore (lv' := [(4, .int o3.1), (3, .int t0), (0, .ref (h 0)), (1, .int x1), (2, .int x2)]) hx hb dX12_findMoves_87 hl (by decide) rfl (fun ls hl => ?_)
  refine lv_iload_n hx hb dX12_findMoves_89 rfl (lv_at hl 1 rfl) ?_
  refine lv_if_eq (tgt := 97) hx hb dX12_findMoves_90 (by decide) (fun cc1 => ?_) (fun cc1 => ?_)
  · replace hf := m_ifT hf cc1
    refine lv_iconst (v := (0 : Int32)) hx hb dX12_findMoves_97 (by decide) ?_
    exact w_findMoves_98 X hret hself7 hself15 hf hM (lv_sub hl [2, 3, 4, 1, 0] rfl)
  · replace hf := m_ifF hf cc1
    refine lv_iconst (v := (2 : Int32)) hx hb dX12_findMoves_93 (by decide) ?_
    refine lv_goto (tgt := 98) hx hb dX12_findMoves_94 (by decide) ?_
    exact w_findMoves_98 X hret hself7 hself15 hf hM (lv_sub hl [2, 3, 4, 1, 0] rfl)
def f_findMoves_75 (self7 : Int32 → (Nat → Int32) → (Nat → Nat → Int32) → Option (Int32 × MS)) (self15 : Int32 → Int32 → (Nat → Int32) → (Nat → Nat → Int32) → Option (Int32 × MS)) (x1 : Int32) (x2 : Int32) (I : Nat → Int32) (A : Nat → Nat → Int32) : Option (Int32 × MS) :=
  f_findMoves_76 self7 self15 x1 x2 (0 : Int32) I A

set_option maxRecDepth 100000 in
set_option maxHeartbeats 4000000 in
theorem w_findMoves_75 {p : Program} {l : Launch} {e : Env} {s : State} {m : MethodId} {args : Array Value} {below : List Frame} {meth : Method} {c : Code} {Q : State → Prop} {D : va_G} {cy ci : ClassId} {h : Nat → Nat} {A0 : Nat → Prop} {o : Int32 × MS} (X : CallFix p m c cX12_findMoves 6 s args wsX12_findMoves RX12) (hret : mRv p l e ({ frames := 5, cells := 0, slots := 0, locals := 132 } : Room) s m args below meth c Q cX12_findMoves D cy ci h A0 o) {self7 : Int32 → (Nat → Int32) → (Nat → Nat → Int32) → Option (Int32 × MS)} (hself7 : ∀ (x1 : Int32) (I : Nat → Int32) (A : Nat → Nat → Int32) (H : Heap) (locs : List Loc) (ls : Array Slot), self7 x1 I A = some o → mH D cy ci h A0 s H locs I A → lv_has ls 6 [(0, .ref (h 0)), (1, .int x1)] → W p l e ({ frames := 5, cells := 0, slots := 0, locals := 132 } : Room) s m args below meth c H locs 0 0 Q (F0 m 7 ls [])) {self15 : Int32 → Int32 → (Nat → Int32) → (Nat → Nat → Int32) → Option (Int32 × MS)} (hself15 : ∀ (x1 : Int32) (x2 : Int32) (I : Nat → Int32) (A : Nat → Nat → Int32) (H : Heap) (locs : List Loc) (ls : Array Slot), self15 x1 x2 I A = some o → mH D cy ci h A0 s H locs I A → lv_has ls 6 [(0, .ref (h 0)), (1, .int x1), (2, .int x2)] → W p l e ({ frames := 5, cells := 0, slots := 0, locals := 132 } : Room) s m args below meth c H locs 0 0 Q (F0 m 15 ls [])) {x1 : Int32} {x2 : Int32} {I : Nat → Int32} {A : Nat → Nat → Int32} {H : Heap} {locs : List Loc} {ls : Array Slot} (hf : f_findMoves_75 self7 self15 x1 x2 I A = some o) (hM : mH D cy ci h A0 s H locs I A) (hl : lv_has ls 6 [(0, .ref (h 0)), (1, .int x1), (2, .int x2)]) : W p l e ({ frames := 5, cells := 0, slots := 0, locals := 132 } : Room) s m args below meth c H locs 0 0 Q (F0 m 75 ls []) := by
  obtain ⟨hx, hb, hml, hown, hts⟩ := id X
  unfold f_findMoves_75 at hf
  refine lv_iconst (v := (0 : Int32)) hx hb dX12_findMoves_75 (by decide) ?_
  exact w_findMoves_76 X hret hself7 hself15 hf hM (lv_sub hl [0, 1, 2] rfl)
def f_findMoves_71 (self7 : Int32 → (Nat → Int32) → (Nat → Nat → Int32) → Option (Int32 × MS)) (self15 : Int32 → Int32 → (Nat → Int32) → (Nat → Nat → Int32) → Option (Int32 × MS)) (x1 : Int32) (x2 : Int32) (I : Nat → Int32) (A : Nat → Nat → Int32) : Option (Int32 × MS) :=
  f_findMoves_76 self7 self15 x1 x2 (1 : Int32) I A

set_option maxRecDepth 100000 in
set_option maxHeartbeats 4000000 in
theorem w_findMoves_71 {p : Program} {l : Launch} {e : Env} {s : State} {m : MethodId} {args : Array Value} {below : List Frame} {meth : Method} {c : Code} {Q : State → Prop} {D : va_G} {cy ci : ClassId} {h : Nat → Nat} {A0 : Nat → Prop} {o : Int32 × MS} (X : CallFix p m c cX12_findMoves 6 s args wsX12_findMoves RX12) (hret : mRv p l e ({ frames := 5, cells := 0, slots := 0, locals := 132 } : Room) s m args below meth c Q cX12_findMoves D cy ci h A0 o) {self7 : Int32 → (Nat → Int32) → (Nat → Nat → Int32) → Option (Int32 × MS)} (hself7 : ∀ (x1 : Int32) (I : Nat → Int32) (A : Nat → Nat → Int32) (H : Heap) (locs : List Loc) (ls : Array Slot), self7 x1 I A = some o → mH D cy ci h A0 s H locs I A → lv_has ls 6 [(0, .ref (h 0)), (1, .int x1)] → W p l e ({ frames := 5, cells := 0, slots := 0, locals := 132 } : Room) s m args below meth c H locs 0 0 Q (F0 m 7 ls [])) {self15 : Int32 → Int32 → (Nat → Int32) → (Nat → Nat → Int32) → Option (Int32 × MS)} (hself15 : ∀ (x1 : Int32) (x2 : Int32) (I : Nat → Int32) (A : Nat → Nat → Int32) (H : Heap) (locs : List Loc) (ls : Array Slot), self15 x1 x2 I A = some o → mH D cy ci h A0 s H locs I A → lv_has ls 6 [(0, .ref (h 0)), (1, .int x1), (2, .int x2)] → W p l e ({ frames := 5, cells := 0, slots := 0, locals := 132 } : Room) s m args below meth c H locs 0 0 Q (F0 m 15 ls [])) {x1 : Int32} {x2 : Int32} {I : Nat → Int32} {A : Nat → Nat → Int32} {H : Heap} {locs : List Loc} {ls : Array Slot} (hf : f_findMoves_71 self7 self15 x1 x2 I A = some o) (hM : mH D cy ci h A0 s H locs I A) (hl : lv_has ls 6 [(0, .ref (h 0)), (1, .int x1), (2, .int x2)]) : W p l e ({ frames := 5, cells := 0, slots := 0, locals := 132 } : Room) s m args below meth c H locs 0 0 Q (F0 m 71 ls []) := by
  obtain ⟨hx, hb, hml, hown, hts⟩ := id X
  unfold f_findMoves_71 at hf
  refine lv_iconst (v := (1 : Int32)) hx hb dX12_findMoves_71 (by decide) ?_
  refine lv_goto (tgt := 76) hx hb dX12_findMoves_72 (by decide) ?_
  exact w_findMoves_76 X hret hself7 hself15 hf hM (lv_sub hl [0, 1, 2] rfl)
def f_findMoves_15s (self7 : Int32 → (Nat → Int32) → (Nat → Nat → Int32) → Option (Int32 × MS)) (self15 : Int32 → Int32 → (Nat → Int32) → (Nat → Nat → Int32) → Option (Int32 × MS)) (x1 : Int32) (x2 : Int32) (I : Nat → Int32) (A : Nat → Nat → Int32) : Option (Int32 × MS) :=
  m_if ((64 : Int32) ≤ x2) (
  f_findMoves_163 self7 x1 I A
  ) (
  m_chk (¬ (x1 < 0 ∨ 64 ≤ (x1).toNatClampNeg)) (
  m_bnd (A 24 (x1).toNatClampNeg) (fun v1 =>
  m_cl (f_sideOf v1 I A) (fun r2 Ic2 Ac2 =>
  m_if (r2 = (Ic2 25)) (
  m_cl (f_goes x1 x2 Ic2 Ac2) (fun r3 Ic3 Ac3 =>
  m_if (r3 = 0) (
  f_findMoves_157 self7 self15 x1 x2 Ic3 Ac3
  ) (
  m_chk (¬ (x1 < 0 ∨ 64 ≤ (x1).toNatClampNeg)) (
  m_bnd (Ac3 24 (x1).toNatClampNeg) (fun v4 =>
  m_cl (f_kind v4 Ic3 Ac3) (fun r5 Ic5 Ac5 =>
  m_if (r5 = (1 : Int32)) (
  m_if (x2 < (8 : Int32)) (
  f_findMoves_71 self7 self15 x1 x2 Ic5 Ac5
  ) (
  m_if (x2 ≤ (55 : Int32)) (
  f_findMoves_75 self7 self15 x1 x2 Ic5 Ac5
  ) (
  f_findMoves_71 self7 self15 x1 x2 Ic5 Ac5
  )
  )
  ) (
  f_findMoves_75 self7 self15 x1 x2 Ic5 Ac5
  ))))
  ))
  ) (
  f_findMoves_163 self7 x1 Ic2 Ac2
  ))))
  )

set_option maxRecDepth 100000 in
set_option maxHeartbeats 4000000 in
theorem ws_findMoves_15 {p : Program} {l : Launch} {e : Env} {s : State} {m : MethodId} {args : Array Value} {below : List Frame} {meth : Method} {c : Code} {Q : State → Prop} {D : va_G} {cy ci : ClassId} {h : Nat → Nat} {A0 : Nat → Prop} {o : Int32 × MS} (X : CallFix p m c cX12_findMoves 6 s args wsX12_findMoves RX12) (hret : mRv p l e ({ frames := 5, cells := 0, slots := 0, locals := 132 } : Room) s m args below meth c Q cX12_findMoves D cy ci h A0 o) {self7 : Int32 → (Nat → Int32) → (Nat → Nat → Int32) → Option (Int32 × MS)} (hself7 : ∀ (x1 : Int32) (I : Nat → Int32) (A : Nat → Nat → Int32) (H : Heap) (locs : List Loc) (ls : Array Slot), self7 x1 I A = some o → mH D cy ci h A0 s H locs I A → lv_has ls 6 [(0, .ref (h 0)), (1, .int x1)] → W p l e ({ frames := 5, cells := 0, slots := 0, locals := 132 } : Room) s m args below meth c H locs 0 0 Q (F0 m 7 ls [])) {self15 : Int32 → Int32 → (Nat → Int32) → (Nat → Nat → Int32) → Option (Int32 × MS)} (hself15 : ∀ (x1 : Int32) (x2 : Int32) (I : Nat → Int32) (A : Nat → Nat → Int32) (H : Heap) (locs : List Loc) (ls : Array Slot), self15 x1 x2 I A = some o → mH D cy ci h A0 s H locs I A → lv_has ls 6 [(0, .ref (h 0)), (1, .int x1), (2, .int x2)] → W p l e ({ frames := 5, cells := 0, slots := 0, locals := 132 } : Room) s m args below meth c H locs 0 0 Q (F0 m 15 ls [])) {x1 : Int32} {x2 : Int32} {I : Nat → Int32} {A : Nat → Nat → Int32} {H : Heap} {locs : List Loc} {ls : Array Slot} (hf : f_findMoves_15s self7 self15 x1 x2 I A = some o) (hM : mH D cy ci h A0 s H locs I A) (hl : lv_has ls 6 [(0, .ref (h 0)), (1, .int x1), (2, .int x2)]) : W p l e ({ frames := 5, cells := 0, slots := 0, locals := 132 } : Room) s m args below meth c H locs 0 0 Q (F0 m 15 ls []) := by
  obtain ⟨hx, hb, hml, hown, hts⟩ := id X
  unfold f_findMoves_15s at hf
  refine lv_iload_n hx hb dX12_findMoves_15 rfl (lv_at hl 2 rfl) ?_
  refine lv_bipush (v := (64 : Int32)) hx hb dX12_findMoves_16 (by decide) ?_
  refine lv_icmp_ge (tgt := 163) hx hb dX12_findMoves_18 (by decide) (fun cc1 => ?_) (fun cc1 => ?_)
  · replace hf := m_ifT hf cc1
    exact w_findMoves_163 X hret hself7 hf hM (lv_sub hl [0, 1] rfl)
  · replace hf := m_ifF hf cc1
    refine lv_aload_n hx hb dX12_findMoves_21 rfl (lv_at hl 0 rfl) ?_
    refine m_get (v := .ref (h 24)) X hw_findMoves hM 24 (by decide) fl_findMoves_24 rfl dX12_findMoves_22 ?_
    refine lv_iload_n hx hb dX12_findMoves_25 rfl (lv_at hl 1 rfl) ?_
    obtain ⟨cd, hf⟩ := m_chkE hf
    refine m_iald X hM 24 20 64 rfl cd dX12_findMoves_26 ?_
    clear cd
    obtain ⟨v1, ev, hf⟩ := m_bndE hf
    refine m_top ev ?_
    clear ev
    obtain ⟨o2, ho, hf⟩ := m_clE hf
    refine m_callSi X hM (c_sideOf ho) gX12_findMoves_X12_sideOf rfl ⟨rfl, rfl⟩ hd_sideOf ⟨Nat.le_of_ble_eq_true rfl, Nat.le_of_ble_eq_true rfl⟩ rfl hl.1 rfl (Nat.le_of_ble_eq_true rfl) dX12_findMoves_27 (fun H locs hM => ?_)
    clear ho
    refine lv_aload_n hx hb dX12_findMoves_30 rfl (lv_at hl 0 rfl) ?_
    refine m_get (v := .int (o2.2.1 25)) X hw_findMoves hM 25 (by decide) fl_findMoves_25 rfl dX12_findMoves_31 ?_
    refine lv_icmp_ne (tgt := 163) hx hb dX12_findMoves_34 (by decide) (fun cc1 => ?_) (fun cc1 => ?_)
    · replace hf := m_ifF hf cc1
      exact w_findMoves_163 X hret hself7 hf hM (lv_sub hl [0, 1] rfl)
    · replace hf := m_ifT hf cc1
      refine lv_aload_n hx hb dX12_findMoves_37 rfl (lv_at hl 0 rfl) ?_
      refine lv_iload_n hx hb dX12_findMoves_38 rfl (lv_at hl 1 rfl) ?_
      refine lv_iload_n hx hb dX12_findMoves_39 rfl (lv_at hl 2 rfl) ?_
      obtain ⟨o3, ho, hf⟩ := m_clE hf
      refine m_callVi X hM (c_goes ho) gX12_findMoves_X12_goes rfl ⟨rfl, rfl⟩ hd_goes ⟨Nat.le_of_ble_eq_true rfl, Nat.le_of_ble_eq_true rfl⟩ rfl hl.1 rfl (Nat.le_of_ble_eq_true rfl) dX12_findMoves_40 (fun H locs hM => ?_)
      clear ho
      refine lv_if_eq (tgt := 157) hx hb dX12_findMoves_43 (by decide) (fun cc1 => ?_) (fun cc1 => ?_)
      · replace hf := m_ifT hf cc1
        exact w_findMoves_157 X hret hself7 hself15 hf hM (lv_sub hl [0, 1, 2] rfl)
      · replace hf := m_ifF hf cc1
        refine lv_aload_n hx hb dX12_findMoves_46 rfl (lv_at hl 0 rfl) ?_
        refine m_get (v := .ref (h 24)) X hw_findMoves hM 24 (by decide) fl_findMoves_24 rfl dX12_findMoves_47 ?_
        refine lv_iload_n hx hb dX12_findMoves_50 rfl (lv_at hl 1 rfl) ?_
        obtain ⟨cd, hf⟩ := m_chkE hf
        refine m_iald X hM 24 20 64 rfl cd dX12_findMoves_51 ?_
        clear cd
        obtain ⟨v4, ev, hf⟩ := m_bndE hf
        refine m_top ev ?_
        clear ev
        obtain ⟨o5, ho, hf⟩ := m_clE hf
        refine m_callSi X hM (c_kind ho) gX12_findMoves_X12_kind rfl ⟨rfl, rfl⟩ hd_kind ⟨Nat.le_of_ble_eq_true rfl, Nat.le_of_ble_eq_true rfl⟩ rfl hl.1 rfl (Nat.le_of_ble_eq_true rfl) dX12_findMoves_52 (fun H locs hM => ?_)
        clear ho
        refine lv_iconst (v := (1 : Int32)) hx hb dX12_findMoves_55 (by decide) ?_
        refine lv_icmp_ne (tgt := 75) hx hb dX12_findMoves_56 (by decide) (fun cc1 => ?_) (fun cc1 => ?_)
        · replace hf := m_ifF hf cc1
          exact w_findMoves_75 X hret hself7 hself15 hf hM (lv_sub hl [0, 1, 2] rfl)
        · replace hf := m_ifT hf cc1
          refine lv_iload_n hx hb dX12_findMoves_59 rfl (lv_at hl 2 rfl) ?_
          refine lv_bipush (v := (8 : Int32)) hx hb dX12_findMoves_60 (by decide) ?_
          refine lv_icmp_lt (tgt := 71) hx hb dX12_findMoves_62 (by decide) (fun cc1 => ?_) (fun cc1 => ?_)
          · replace hf := m_ifT hf cc1
            exact w_findMoves_71 X hret hself7 hself15 hf hM (lv_sub hl [0, 1, 2] rfl)
          · replace hf := m_ifF hf cc1
            refine lv_iload_n hx hb dX12_findMoves_65 rfl (lv_at hl 2 rfl) ?_
            refine lv_bipush (v := (55 : Int32)) hx hb dX12_findMoves_66 (by decide) ?_
            refine lv_icmp_le (tgt := 75) hx hb dX12_findMoves_68 (by decide) (fun cc1 => ?_) (fun cc1 => ?_)
            · replace hf := m_ifT hf cc1
              exact w_findMoves_75 X hret hself7 hself15 hf hM (lv_sub hl [0, 1, 2] rfl)
            · replace hf := m_ifF hf cc1
              exact w_findMoves_71 X hret hself7 hself15 hf hM (lv_sub hl [0, 1, 2] rfl)
def f_findMoves_15 (self7 : Int32 → (Nat → Int32) → (Nat → Nat → Int32) → Option (Int32 × MS)) : Nat → Int32 → Int32 → (Nat → Int32) → (Nat → Nat → Int32) → Option (Int32 × MS)
  | 0 => fun _ _ _ _ => none
  | n + 1 => f_findMoves_15s self7 (f_findMoves_15 self7 n)
theorem w_findMoves_15 {p : Program} {l : Launch} {e : Env} {s : State} {m : MethodId} {args : Array Value} {below : List Frame} {meth : Method} {c : Code} {Q : State → Prop} {D : va_G} {cy ci : ClassId} {h : Nat → Nat} {A0 : Nat → Prop} {o : Int32 × MS} (X : CallFix p m c cX12_findMoves 6 s args wsX12_findMoves RX12) (hret : mRv p l e ({ frames := 5, cells := 0, slots := 0, locals := 132 } : Room) s m args below meth c Q cX12_findMoves D cy ci h A0 o) {self7 : Int32 → (Nat → Int32) → (Nat → Nat → Int32) → Option (Int32 × MS)} (hself7 : ∀ (x1 : Int32) (I : Nat → Int32) (A : Nat → Nat → Int32) (H : Heap) (locs : List Loc) (ls : Array Slot), self7 x1 I A = some o → mH D cy ci h A0 s H locs I A → lv_has ls 6 [(0, .ref (h 0)), (1, .int x1)] → W p l e ({ frames := 5, cells := 0, slots := 0, locals := 132 } : Room) s m args below meth c H locs 0 0 Q (F0 m 7 ls [])) (n : Nat) : ∀ (x1 : Int32) (x2 : Int32) (I : Nat → Int32) (A : Nat → Nat → Int32) (H : Heap) (locs : List Loc) (ls : Array Slot), f_findMoves_15 self7 n x1 x2 I A = some o → mH D cy ci h A0 s H locs I A → lv_has ls 6 [(0, .ref (h 0)), (1, .int x1), (2, .int x2)] → W p l e ({ frames := 5, cells := 0, slots := 0, locals := 132 } : Room) s m args below meth c H locs 0 0 Q (F0 m 15 ls []) := by
  induction n with
  | zero => intro x1 x2 I A H locs ls hf; cases hf
  | succ n ih => intro x1 x2 I A H locs ls hf hM hl; exact ws_findMoves_15 X hret hself7 (self15 := f_findMoves_15 self7 n) ih hf hM hl
def f_findMoves_7s (self7 : Int32 → (Nat → Int32) → (Nat → Nat → Int32) → Option (Int32 × MS)) (x1 : Int32) (I : Nat → Int32) (A : Nat → Nat → Int32) : Option (Int32 × MS) :=
  m_if ((64 : Int32) ≤ x1) (
  some (0, (I, A))
  ) (
  f_findMoves_15 self7 mFuel x1 (0 : Int32) I A
  )

set_option maxRecDepth 100000 in
set_option maxHeartbeats 4000000 in
theorem ws_findMoves_7 {p : Program} {l : Launch} {e : Env} {s : State} {m : MethodId} {args : Array Value} {below : List Frame} {meth : Method} {c : Code} {Q : State → Prop} {D : va_G} {cy ci : ClassId} {h : Nat → Nat} {A0 : Nat → Prop} {o : Int32 × MS} (X : CallFix p m c cX12_findMoves 6 s args wsX12_findMoves RX12) (hret : mRv p l e ({ frames := 5, cells := 0, slots := 0, locals := 132 } : Room) s m args below meth c Q cX12_findMoves D cy ci h A0 o) {self7 : Int32 → (Nat → Int32) → (Nat → Nat → Int32) → Option (Int32 × MS)} (hself7 : ∀ (x1 : Int32) (I : Nat → Int32) (A : Nat → Nat → Int32) (H : Heap) (locs : List Loc) (ls : Array Slot), self7 x1 I A = some o → mH D cy ci h A0 s H locs I A → lv_has ls 6 [(0, .ref (h 0)), (1, .int x1)] → W p l e ({ frames := 5, cells := 0, slots := 0, locals := 132 } : Room) s m args below meth c H locs 0 0 Q (F0 m 7 ls [])) {x1 : Int32} {I : Nat → Int32} {A : Nat → Nat → Int32} {H : Heap} {locs : List Loc} {ls : Array Slot} (hf : f_findMoves_7s self7 x1 I A = some o) (hM : mH D cy ci h A0 s H locs I A) (hl : lv_has ls 6 [(0, .ref (h 0)), (1, .int x1)]) : W p l e ({ frames := 5, cells := 0, slots := 0, locals := 132 } : Room) s m args below meth c H locs 0 0 Q (F0 m 7 ls []) := by
  obtain ⟨hx, hb, hml, hown, hts⟩ := id X
  unfold f_findMoves_7s at hf
  refine lv_iload_n hx hb dX12_findMoves_7 rfl (lv_at hl 1 rfl) ?_
  refine lv_bipush (v := (64 : Int32)) hx hb dX12_findMoves_8 (by decide) ?_
  refine lv_icmp_ge (tgt := 169) hx hb dX12_findMoves_10 (by decide) (fun cc1 => ?_) (fun cc1 => ?_)
  · replace hf := m_ifT hf cc1
    cases hf
    exact hret H locs _ ls hM dX12_findMoves_169
  · replace hf := m_ifF hf cc1
    refine lv_iconst (v := (0 : Int32)) hx hb dX12_findMoves_13 (by decide) ?_
    refine lv_istore_n (lv' := [(2, .int (0 : Int32)), (0, .ref (h 0)), (1, .int x1)]) hx hb dX12_findMoves_14 rfl hl (by decide) rfl (fun ls hl => ?_)
    exact w_findMoves_15 X hret hself7 _ _ _ _ _ _ _ _ hf hM (lv_sub hl [1, 2, 0] rfl)
def f_findMoves_7 : Nat → Int32 → (Nat → Int32) → (Nat → Nat → Int32) → Option (Int32 × MS)
  | 0 => fun _ _ _ => none
  | n + 1 => f_findMoves_7s (f_findMoves_7 n)
theorem w_findMoves_7 {p : Program} {l : Launch} {e : Env} {s : State} {m : MethodId} {args : Array Value} {below : List Frame} {meth : Method} {c : Code} {Q : State → Prop} {D : va_G} {cy ci : ClassId} {h : Nat → Nat} {A0 : Nat → Prop} {o : Int32 × MS} (X : CallFix p m c cX12_findMoves 6 s args wsX12_findMoves RX12) (hret : mRv p l e ({ frames := 5, cells := 0, slots := 0, locals := 132 } : Room) s m args below meth c Q cX12_findMoves D cy ci h A0 o) (n : Nat) : ∀ (x1 : Int32) (I : Nat → Int32) (A : Nat → Nat → Int32) (H : Heap) (locs : List Loc) (ls : Array Slot), f_findMoves_7 n x1 I A = some o → mH D cy ci h A0 s H locs I A → lv_has ls 6 [(0, .ref (h 0)), (1, .int x1)] → W p l e ({ frames := 5, cells := 0, slots := 0, locals := 132 } : Room) s m args below meth c H locs 0 0 Q (F0 m 7 ls []) := by
  induction n with
  | zero => intro x1 I A H locs ls hf; cases hf
  | succ n ih => intro x1 I A H locs ls hf hM hl; exact ws_findMoves_7 X hret (self7 := f_findMoves_7 n) ih hf hM hl
def f_findMoves_0 (I : Nat → Int32) (A : Nat → Nat → Int32) : Option (Int32 × MS) :=
  m_bnd (upd I 33 (0 : Int32)) (fun I1 =>
  f_findMoves_7 mFuel (0 : Int32) I1 A)

set_option maxRecDepth 100000 in
set_option maxHeartbeats 4000000 in
theorem w_findMoves_0 {p : Program} {l : Launch} {e : Env} {s : State} {m : MethodId} {args : Array Value} {below : List Frame} {meth : Method} {c : Code} {Q : State → Prop} {D : va_G} {cy ci : ClassId} {h : Nat → Nat} {A0 : Nat → Prop} {o : Int32 × MS} (X : CallFix p m c cX12_findMoves 6 s args wsX12_findMoves RX12) (hret : mRv p l e ({ frames := 5, cells := 0, slots := 0, locals := 132 } : Room) s m args below meth c Q cX12_findMoves D cy ci h A0 o) {I : Nat → Int32} {A : Nat → Nat → Int32} {H : Heap} {locs : List Loc} {ls : Array Slot} (hf : f_findMoves_0  I A = some o) (hM : mH D cy ci h A0 s H locs I A) (hl : lv_has ls 6 [(0, .ref (h 0))]) : W p l e ({ frames := 5, cells := 0, slots := 0, locals := 132 } : Room) s m args below meth c H locs 0 0 Q (F0 m 0 ls []) := by
  obtain ⟨hx, hb, hml, hown, hts⟩ := id X
  unfold f_findMoves_0 at hf
  refine lv_aload_n hx hb dX12_findMoves_0 rfl (lv_at hl 0 rfl) ?_
  refine lv_iconst (v := (0 : Int32)) hx hb dX12_findMoves_1 (by decide) ?_
  refine m_put X hw_findMoves hM 33 (by decide) fl_findMoves_33 mi_33 rfl (tyX12_ok 33 (by decide)) dX12_findMoves_2 (fun H locs hM => ?_)
  obtain ⟨I1, ev, hf⟩ := m_bndE hf
  replace hM := m_hI hM ev
  clear ev
  refine lv_iconst (v := (0 : Int32)) hx hb dX12_findMoves_5 (by decide) ?_
  refine lv_istore_n (lv' := [(1, .int (0 : Int32)), (0, .ref (h 0))]) hx hb dX12_findMoves_6 rfl hl (by decide) rfl (fun ls hl => ?_)
  exact w_findMoves_7 X hret _ _ _ _ _ _ _ hf hM (lv_sub hl [1, 0] rfl)
def f_findMoves (I : Nat → Int32) (A : Nat → Nat → Int32) : Option (Int32 × MS) := f_findMoves_0  I A
theorem c_findMoves {l : Launch} {D : va_G} {cy ci : ClassId} {h : Nat → Nat} {I : Nat → Int32} {A : Nat → Nat → Int32} {o : Int32 × MS} (hf : f_findMoves  I A = some o) : mMv l yX12_findMoves wsX12_findMoves ({ frames := 5, cells := 0, slots := 0, locals := 132 } : Room) [.ref (h 0)] D cy ci h I A o :=
  m_entryV (cc := cX12_findMoves) (maxL := 6) (by decide) rfl rfl (Nat.le_of_ble_eq_true rfl) (fun p e s m args below meth c A0 Q H locs ls X hret hM hl => w_findMoves_0 X hret hf hM (lv_sub hl [0] rfl))
