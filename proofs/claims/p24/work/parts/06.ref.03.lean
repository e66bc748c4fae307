section
theorem hw_apartOf : ∀ w ∈ wsX120, w ∈ wsX12_apartOf := by decide +kernel
theorem fl_apartOf_24 : Cond.fieldLink RX12 70 "MoveTextsModel" "men" "[I" ∈ wsX12_apartOf := by decide +kernel
theorem fl_apartOf_32 : Cond.fieldLink RX12 79 "MoveTextsModel" "list" "[I" ∈ wsX12_apartOf := by decide +kernel
theorem fl_apartOf_33 : Cond.fieldLink RX12 170 "MoveTextsModel" "moves" "I" ∈ wsX12_apartOf := by decide +kernel
theorem hd_apartOf : yX12_apartOf.cls = RX12 ∧ yX12_apartOf.cls ≠ "java/lang/invoke/MethodHandle" ∧ yX12_apartOf.cls ≠ "java/lang/invoke/VarHandle" ∧ (parseMethodDescriptor yX12_apartOf.desc).map (fun d => d.parameters.length) = some 1 := by decide +kernel
noncomputable def f_apartOf_195 (t0 : Int32) (I : Nat → Int32) (A : Nat → Nat → Int32) : Option (Int32 × MS) :=
  some (t0, (I, A))

set_option maxRecDepth 100000 in
set_option maxHeartbeats 4000000 in
theorem w_apartOf_195 {p : Program} {l : Launch} {e : Env} {s : State} {m : MethodId} {args : Array Value} {below : List Frame} {meth : Method} {c : Code} {Q : State → Prop} {D : va_G} {cy ci : ClassId} {h : Nat → Nat} {A0 : Nat → Prop} {o : Int32 × MS} (X : CallFix p m c cX12_apartOf 9 s args wsX12_apartOf RX12) (hret : mRi p l e ({ frames := 2, cells := 0, slots := 0, locals := 43 } : Room) s m args below meth c Q cX12_apartOf D cy ci h A0 .int o) {t0 : Int32} {I : Nat → Int32} {A : Nat → Nat → Int32} {H : Heap} {locs : List Loc} {ls : Array Slot} (hf : f_apartOf_195 t0 I A = some o) (hM : mH D cy ci h A0 s H locs I A) (hl : lv_has ls 9 []) : W p l e ({ frames := 2, cells := 0, slots := 0, locals := 43 } : Room) s m args below meth c H locs 0 0 Q (F0 m 195 ls [.int t0]) := by
  obtain ⟨hx, hb, hml, hown, hts⟩ := id X
  unfold f_apartOf_195 at hf
  cases hf
  exact hret H locs _ ls hM rfl dX12_apartOf_195
noncomputable def f_apartOf_161 (self46 : Int32 → Int32 → Int32 → Int32 → Int32 → Int32 → Int32 → (Nat → Int32) → (Nat → Nat → Int32) → Option (Int32 × MS)) (x1 : Int32) (x2 : Int32) (x3 : Int32) (x4 : Int32) (x5 : Int32) (x6 : Int32) (x7 : Int32) (I : Nat → Int32) (A : Nat → Nat → Int32) : Option (Int32 × MS) :=
  m_bnd (x7 + (1 : Int32)) (fun v1 =>
  self46 x1 x2 x3 x4 x5 x6 v1 I A)

set_option maxRecDepth 100000 in
set_option maxHeartbeats 4000000 in
theorem w_apartOf_161 {p : Program} {l : Launch} {e : Env} {s : State} {m : MethodId} {args : Array Value} {below : List Frame} {meth : Method} {c : Code} {Q : State → Prop} {D : va_G} {cy ci : ClassId} {h : Nat → Nat} {A0 : Nat → Prop} {o : Int32 × MS} (X : CallFix p m c cX12_apartOf 9 s args wsX12_apartOf RX12) (hret : mRi p l e ({ frames := 2, cells := 0, slots := 0, locals := 43 } : Room) s m args below meth c Q cX12_apartOf D cy ci h A0 .int o) {self46 : Int32 → Int32 → Int32 → Int32 → Int32 → Int32 → Int32 → (Nat → Int32) → (Nat → Nat → Int32) → Option (Int32 × MS)} (hself46 : ∀ (x1 : Int32) (x2 : Int32) (x3 : Int32) (x4 : Int32) (x5 : Int32) (x6 : Int32) (x7 : Int32) (I : Nat → Int32) (A : Nat → Nat → Int32) (H : Heap) (locs : List Loc) (ls : Array Slot), self46 x1 x2 x3 x4 x5 x6 x7 I A = some o → mH D cy ci h A0 s H locs I A → lv_has ls 9 [(0, .ref (h 0)), (1, .int x1), (2, .int x2), (3, .int x3), (4, .int x4), (5, .int x5), (6, .int x6), (7, .int x7)] → W p l e ({ frames := 2, cells := 0, slots := 0, locals := 43 } : Room) s m args below meth c H locs 0 0 Q (F0 m 46 ls [])) {x1 : Int32} {x2 : Int32} {x3 : Int32} {x4 : Int32} {x5 : Int32} {x6 : Int32} {x7 : Int32} {I : Nat → Int32} {A : Nat → Nat → Int32} {H : Heap} {locs : List Loc} {ls : Array Slot} (hf : f_apartOf_161 self46 x1 x2 x3 x4 x5 x6 x7 I A = some o) (hM : mH D cy ci h A0 s H locs I A) (hl : lv_has ls 9 [(0, .ref (h 0)), (1, .int x1), (2, .int x2), (3, .int x3), (4, .int x4), (5, .int x5), (6, .int x6), (7, .int x7)]) : W p l e ({ frames := 2, cells := 0, slots := 0, locals := 43 } : Room) s m args below meth c H locs 0 0 Q (F0 m 161 ls []) := by
  obtain ⟨hx, hb, hml, hown, hts⟩ := id X
  unfold f_apartOf_161 at hf
  obtain ⟨v1, ev, hf⟩ := m_bndE hf
  refine lv_iinc (v := v1) (lv' := [(7, .int v1), (0, .ref (h 0)), (1, .int x1), (2, .int x2), (3, .int x3), (4, .int x4), (5, .int x5), (6, .int x6)]) hx hb dX12_apartOf_161 hl (k := 7) rfl (by rw [ev]; rfl) (by decide) rfl (fun ls hl => ?_)
  clear ev
  refine lv_goto (tgt := 46) hx hb dX12_apartOf_164 (by decide) ?_
  exact hself46 _ _ _ _ _ _ _ _ _ _ _ _ hf hM (lv_sub hl [1, 2, 3, 4, 5, 6, 7, 0] rfl)
noncomputable def f_apartOf_159 (self46 : Int32 → Int32 → Int32 → Int32 → Int32 → Int32 → Int32 → (Nat → Int32) → (Nat → Nat → Int32) → Option (Int32 × MS)) (x1 : Int32) (x2 : Int32) (x3 : Int32) (x4 : Int32) (x5 : Int32) (x7 : Int32) (t0 : Int32) (I : Nat → Int32) (A : Nat → Nat → Int32) : Option (Int32 × MS) :=
  f_apartOf_161 self46 x1 x2 x3 x4 x5 t0 x7 I A

set_option maxRecDepth 100000 in
set_option maxHeartbeats 4000000 in
theorem w_apartOf_159 {p : Program} {l : Launch} {e : Env} {s : State} {m : MethodId} {args : Array Value} {below : List Frame} {meth : Method} {c : Code} {Q : State → Prop} {D : va_G} {cy ci : ClassId} {h : Nat → Nat} {A0 : Nat → Prop} {o : Int32 × MS} (X : CallFix p m c cX12_apartOf 9 s args wsX12_apartOf RX12) (hret : mRi p l e ({ frames := 2, cells := 0, slots := 0, locals := 43 } : Room) s m args below meth c Q cX12_apartOf D cy ci h A0 .int o) {self46 : Int32 → Int32 → Int32 → Int32 → Int32 → Int32 → Int32 → (Nat → Int32) → (Nat → Nat → Int32) → Option (Int32 × MS)} (hself46 : ∀ (x1 : Int32) (x2 : Int32) (x3 : Int32) (x4 : Int32) (x5 : Int32) (x6 : Int32) (x7 : Int32) (I : Nat → Int32) (A : Nat → Nat → Int32) (H : Heap) (locs : List Loc) (ls : Array Slot), self46 x1 x2 x3 x4 x5 x6 x7 I A = some o → mH D cy ci h A0 s H locs I A → lv_has ls 9 [(0, .ref (h 0)), (1, .int x1), (2, .int x2), (3, .int x3), (4, .int x4), (5, .int x5), (6, .int x6), (7, .int x7)] → W p l e ({ frames := 2, cells := 0, slots := 0, locals := 43 } : Room) s m args below meth c H locs 0 0 Q (F0 m 46 ls [])) {x1 : Int32} {x2 : Int32} {x3 : Int32} {x4 : Int32} {x5 : Int32} {x7 : Int32} {t0 : Int32} {I : Nat → Int32} {A : Nat → Nat → Int32} {H : Heap} {locs : List Loc} {ls : Array Slot} (hf : f_apartOf_159 self46 x1 x2 x3 x4 x5 x7 t0 I A = some o) (hM : mH D cy ci h A0 s H locs I A) (hl : lv_has ls 9 [(0, .ref (h 0)), (1, .int x1), (2, .int x2), (3, .int x3), (4, .int x4), (5, .int x5), (7, .int x7)]) : W p l e ({ frames := 2, cells := 0, slots := 0, locals := 43 } : Room) s m args below meth c H locs 0 0 Q (F0 m 159 ls [.int t0]) := by
  obtain ⟨hx, hb, hml, hown, hts⟩ := id X
  unfold f_apartOf_159 at hf
  refine lv_istore (lv' := [(6, .int t0), (0, .ref (h 0)), (1, .int x1), (2, .int x2), (3, .int x3), (4, .int x4), (5, .int x5), (7, .int x7)]) hx hb dX12_apartOf_159 hl (by decide) rfl (fun ls hl => ?_)
  exact w_apartOf_161 X hret hself46 hf hM (lv_sub hl [1, 2, 3, 4, 5, 6, 0, 7] rfl)
noncomputable def f_apartOf_154 (self46 : Int32 → Int32 → Int32 → Int32 → Int32 → Int32 → Int32 → (Nat → Int32) → (Nat → Nat → Int32) → Option (Int32 × MS)) (x1 : Int32) (x2 : Int32) (x3 : Int32) (x4 : Int32) (x5 : Int32) (x7 : Int32) (I : Nat → Int32) (A : Nat → Nat → Int32) : Option (Int32 × MS) :=
  f_apartOf_159 self46 x1 x2 x3 x4 x5 x7 (1 : Int32) I A

set_option maxRecDepth 100000 in
set_option maxHeartbeats 4000000 in
theorem w_apartOf_154 {p : Program} {l : Launch} {e : Env} {s : State} {m : MethodId} {args : Array Value} {below : List Frame} {meth : Method} {c : Code} {Q : State → Prop} {D : va_G} {cy ci : ClassId} {h : Nat → Nat} {A0 : Nat → Prop} {o : Int32 × MS} (X : CallFix p m c cX12_apartOf 9 s args wsX12_apartOf RX12) (hret : mRi p l e ({ frames := 2, cells := 0, slots := 0, locals := 43 } : Room) s m args below meth c Q cX12_apartOf D cy ci h A0 .int o) {self46 : Int32 → Int32 → Int32 → Int32 → Int32 → Int32 → Int32 → (Nat → Int32) → (Nat → Nat → Int32) → Option (Int32 × MS)} (hself46 : ∀ (x1 : Int32) (x2 : Int32) (x3 : Int32) (x4 : Int32) (x5 : Int32) (x6 : Int32) (x7 : Int32) (I : Nat → Int32) (A : Nat → Nat → Int32) (H : Heap) (locs : List Loc) (ls : Array Slot), self46 x1 x2 x3 x4 x5 x6 x7 I A = some o → mH D cy ci h A0 s H locs I A → lv_has ls 9 [(0, .ref (h 0)), (1, .int x1), (2, .int x2), (3, .int x3), (4, .int x4), (5, .int x5), (6, .int x6), (7, .int x7)] → W p l e ({ frames := 2, cells := 0, slots := 0, locals := 43 } : Room) s m args below meth c H locs 0 0 Q (F0 m 46 ls [])) {x1 : Int32} {x2 : Int32} {x3 : Int32} {x4 : Int32} {x5 : Int32} {x7 : Int32} {I : Nat → Int32} {A : Nat → Nat → Int32} {H : Heap} {locs : List Loc} {ls : Array Slot} (hf : f_apartOf_154 self46 x1 x2 x3 x4 x5 x7 I A = some o) (hM : mH D cy ci h A0 s H locs I A) (hl : lv_has ls 9 [(0, .ref (h 0)), (1, .int x1), (2, .int x2), (3, .int x3), (4, .int x4), (5, .int x5), (7, .int x7)]) : W p l e ({ frames := 2, cells := 0, slots := 0, locals := 43 } : Room) s m args below meth c H locs 0 0 Q (F0 m 154 ls []) := by
  obtain ⟨hx, hb, hml, hown, hts⟩ := id X
  unfold f_apartOf_154 at hf
  refine lv_iconst (v := (1 : Int32)) hx hb dX12_apartOf_154 (by decide) ?_
  refine lv_goto (tgt := 159) hx hb dX12_apartOf_155 (by decide) ?_
  exact w_apartOf_159 X hret hself46 hf hM (lv_sub hl [0, 1, 2, 3, 4, 5, 6] rfl)
noncomputable def f_apartOf_135 (self46 : Int32 → Int32 → Int32 → Int32 → Int32 → Int32 → Int32 → (Nat → Int32) → (Nat → Nat → Int32) → Option (Int32 × MS)) (x1 : Int32) (x2 : Int32) (x3 : Int32) (x4 : Int32) (x6 : Int32) (x7 : Int32) (x8 : Int32) (t0 : Int32) (I : Nat → Int32) (A : Nat → Nat → Int32) : Option (Int32 × MS) :=
  m_if (x6 = 0) (
  m_bnd (x8 / (8 : Int32)) (fun v1 =>
  m_bnd (x2 / (8 : Int32)) (fun v2 =>
  m_if (v1 = v2) (
  f_apartOf_154 self46 x1 x2 x3 x4 t0 x7 I A
  ) (
  f_apartOf_159 self46 x1 x2 x3 x4 t0 x7 (0 : Int32) I A
  )))
  ) (
  f_apartOf_154 self46 x1 x2 x3 x4 t0 x7 I A
  )

set_option maxRecDepth 100000 in
set_option maxHeartbeats 4000000 in
theorem w_apartOf_135 {p : Program} {l : Launch} {e : Env} {s : State} {m : MethodId} {args : Array Value} {below : List Frame} {meth : Method} {c : Code} {Q : State → Prop} {D : va_G} {cy ci : ClassId} {h : Nat → Nat} {A0 : Nat → Prop} {o : Int32 × MS} (X : CallFix p m c cX12_apartOf 9 s args wsX12_apartOf RX12) (hret : mRi p l e ({ frames := 2, cells := 0, slots := 0, locals := 43 } : Room) s m args below meth c Q cX12_apartOf D cy ci h A0 .int o) {self46 : Int32 → Int32 → Int32 → Int32 → Int32 → Int32 → Int32 → (Nat → Int32) → (Nat → Nat → Int32) → Option (Int32 × MS)} (hself46 : ∀ (x1 : Int32) (x2 : Int32) (x3 : Int32) (x4 : Int32) (x5 : Int32) (x6 : Int32) (x7 : Int32) (I : Nat → Int32) (A : Nat → Nat → Int32) (H : Heap) (locs : List Loc) (ls : Array Slot), self46 x1 x2 x3 x4 x5 x6 x7 I A = some o → mH D cy ci h A0 s H locs I A → lv_has ls 9 [(0, .ref (h 0)), (1, .int x1), (2, .int x2), (3, .int x3), (4, .int x4), (5, .int x5), (6, .int x6), (7, .int x7)] → W p l e ({ frames := 2, cells := 0, slots := 0, locals := 43 } : Room) s m args below meth c H locs 0 0 Q (F0 m 46 ls [])) {x1 : Int32} {x2 : Int32} {x3 : Int32} {x4 : Int32} {x6 : Int32} {x7 : Int32} {x8 : Int32} {t0 : Int32} {I : Nat → Int32} {A : Nat → Nat → Int32} {H : Heap} {locs : List Loc} {ls : Array Slot} (hf : f_apartOf_135 self46 x1 x2 x3 x4 x6 x7 x8 t0 I A = some o) (hM : mH D cy ci h A0 s H locs I A) (hl : lv_has ls 9 [(0, .ref (h 0)), (1, .int x1), (2, .int x2), (3, .int x3), (4, .int x4), (6, .int x6), (7, .int x7), (8, .int x8)]) : W p l e ({ frames := 2, cells := 0, slots := 0, locals := 43 } : Room) s m args below meth c H locs 0 0 Q (F0 m 135 ls [.int t0]) := by
  obtain ⟨hx, hb, hml, hown, hts⟩ := id X
  unfold f_apartOf_135 at hf
  refine lv_istore (lv' := [(5, .int t0), (0, .ref (h 0)), (1, .int x1), (2, .int x2), (3, .int x3), (4, .int x4), (6, .int x6), (7, .int x7), (8, .int x8)]) hx hb dX12_apartOf_135 hl (by decide) rfl (fun ls hl => ?_)
  refine lv_iload hx hb dX12_apartOf_137 (lv_at hl 6 rfl) ?_
  refine lv_if_ne (tgt := 154) hx hb dX12_apartOf_139 (by decide) (fun cc1 => ?_) (fun cc1 => ?_)
  · replace hf := m_ifF hf cc1
    exact w_apartOf_154 X hret hself46 hf hM (lv_sub hl [1, 2, 3, 4, 5, 0, 7] rfl)
  · replace hf := m_ifT hf cc1
    refine lv_iload hx hb dX12_apartOf_142 (lv_at hl 8 rfl) ?_
    refine lv_bipush (v := (8 : Int32)) hx hb dX12_apartOf_144 (by decide) ?_
    refine lv_idiv hx hb dX12_apartOf_146 (by decide) ?_
    obtain ⟨v1, ev, hf⟩ := m_bndE hf
    refine m_top ev ?_
    clear ev
    refine lv_iload_n hx hb dX12_apartOf_147 rfl (lv_at hl 3 rfl) ?_
    refine lv_bipush (v := (8 : Int32)) hx hb dX12_apartOf_148 (by decide) ?_
    refine lv_idiv hx hb dX12_apartOf_150 (by decide) ?_
    obtain ⟨v2, ev, hf⟩ := m_bndE hf
    refine m_top ev ?_
    clear ev
    refine lv_icmp_ne (tgt := 158) hx hb dX12_apartOf_151 (by decide) (fun cc1 => ?_) (fun cc1 => ?_)
    · replace hf := m_ifF hf cc1
      refine lv_iconst (v := (0 : Int32)) hx hb dX12_apartOf_158 (by decide) ?_
      exact w_apartOf_159 X hret hself46 hf hM (lv_sub hl [1, 2, 3, 4, 5, 0, 7] rfl)
    · replace hf := m_ifT hf cc1
      exact w_apartOf_154 X hret hself46 hf hM (lv_sub hl [1, 2, 3, 4, 5, 0, 7] rfl)
noncomputable def f_apartOf_130 (self46 : Int32 → Int32 → Int32 → Int32 → Int32 → Int32 → Int32 → (Nat → Int32) → (Nat → Nat → Int32) → Option (Int32 × MS)) (x1 : Int32) (x2 : Int32) (x3 : Int32) (x4 : Int32) (x6 : Int32) (x7 : Int32) (x8 : Int32) (I : Nat → Int32) (A : Nat → Nat → Int32) : Option (Int32 × MS) :=
  f_apartOf_135 self46 x1 x2 x3 x4 x6 x7 x8 (1 : Int32) I A

set_option maxRecDepth 100000 in
set_option maxHeartbeats 4000000 in
theorem w_apartOf_130 {p : Program} {l : Launch} {e : Env} {s : State} {m : MethodId} {args : Array Value} {below : List Frame} {meth : Method} {c : Code} {Q : State → Prop} {D : va_G} {cy ci : ClassId} {h : Nat → Nat} {A0 : Nat → Prop} {o : Int32 × MS} (X : CallFix p m c cX12_apartOf 9 s args wsX12_apartOf RX12) (hret : mRi p l e ({ frames := 2, cells := 0, slots := 0, locals := 43 } : Room) s m args below meth c Q cX12_apartOf D cy ci h A0 .int o) {self46 : Int32 → Int32 → Int32 → Int32 → Int32 → Int32 → Int32 → (Nat → Int32) → (Nat → Nat → Int32) → Option (Int32 × MS)} (hself46 : ∀ (x1 : Int32) (x2 : Int32) (x3 : Int32) (x4 : Int32) (x5 : Int32) (x6 : Int32) (x7 : Int32) (I : Nat → Int32) (A : Nat → Nat → Int32) (H : Heap) (locs : List Loc) (ls : Array Slot), self46 x1 x2 x3 x4 x5 x6 x7 I A = some o → mH D cy ci h A0 s H locs I A → lv_has ls 9 [(0, .ref (h 0)), (1, .int x1), (2, .int x2), (3, .int x3), (4, .int x4), (5, .int x5), (6, .int x6), (7, .int x7)] → W p l e ({ frames := 2, cells := 0, slots := 0, locals := 43 } : Room) s m args below meth c H locs 0 0 Q (F0 m 46 ls [])) {x1 : Int32} {x2 : Int32} {x3 : Int32} {x4 : Int32} {x6 : Int32} {x7 : Int32} {x8 : Int32} {I : Nat → Int32} {A : Nat → Nat → Int32} {H : Heap} {locs : List Loc} {ls : Array Slot} (hf : f_apartOf_130 self46 x1 x2 x3 x4 x6 x7 x8 I A = some o) (hM : mH D cy ci h A0 s H locs I A) (hl : lv_has ls 9 [(0, .ref (h 0)), (1, .int x1), (2, .int x2), (3, .int x3), (4, .int x4), (6, .int x6), (7, .int x7), (8, .int x8)]) : W p l e ({ frames := 2, cells := 0, slots := 0, locals := 43 } : Room) s m args below meth c H locs 0 0 Q (F0 m 130 ls []) := by
  obtain ⟨hx, hb, hml, hown, hts⟩ := id X
  unfold f_apartOf_130 at hf
  refine lv_iconst (v := (1 : Int32)) hx hb dX12_apartOf_130 (by decide) ?_
  refine lv_goto (tgt := 135) hx hb dX12_apartOf_131 (by decide) ?_
  exact w_apartOf_135 X hret hself46 hf hM (lv_sub hl [0, 1, 2, 3, 4, 5, 6, 7] rfl)
noncomputable def f_apartOf_46s (self46 : Int32 → Int32 → Int32 → Int32 → Int32 → Int32 → Int32 → (Nat → Int32) → (Nat → Nat → Int32) → Option (Int32 × MS)) (x1 : Int32) (x2 : Int32) (x3 : Int32) (x4 : Int32) (x5 : Int32) (x6 : Int32) (x7 : Int32) (I : Nat → Int32) (A : Nat → Nat → Int32) : Option (Int32 × MS) :=
  m_if ((I 33) ≤ x7) (
  m_if (x4 = 0) (
  f_apartOf_195 (0 : Int32) I A
  ) (
  m_if (x5 = 0) (
  f_apartOf_195 (1 : Int32) I A
  ) (
  m_if (x6 = 0) (
  f_apartOf_195 (2 : Int32) I A
  ) (
  f_apartOf_195 (3 : Int32) I A
  )
  )
  )
  ) (
  m_chk (¬ (x7 < 0 ∨ 2048 ≤ (x7).toNatClampNeg)) (
  m_bnd (A 32 (x7).toNatClampNeg) (fun v1 =>
  m_bnd (v1 - v1 / (64 : Int32) * (64 : Int32)) (fun v2 =>
  m_if (v2 = x2) (
  f_apartOf_161 self46 x1 x2 x3 x4 x5 x6 x7 I A
  ) (
  m_chk (¬ (x7 < 0 ∨ 2048 ≤ (x7).toNatClampNeg)) (
  m_bnd (A 32 (x7).toNatClampNeg) (fun v3 =>
  m_bnd (v3 / (64 : Int32)) (fun v4 =>
  m_bnd (v4 - v4 / (64 : Int32) * (64 : Int32)) (fun v5 =>
  m_bnd (x1 / (64 : Int32)) (fun v6 =>
  m_bnd (v6 - v6 / (64 : Int32) * (64 : Int32)) (fun v7 =>
  m_if (v5 = v7) (
  m_chk (¬ (v2 < 0 ∨ 64 ≤ (v2).toNatClampNeg)) (
  m_bnd (A 24 (v2).toNatClampNeg) (fun v8 =>
  m_cl (f_kind v8 I A) (fun r9 Ic9 Ac9 =>
  m_if (r9 = x3) (
  m_if (x5 = 0) (
  m_bnd (v2 - v2 / (8 : Int32) * (8 : Int32)) (fun v10 =>
  m_bnd (x2 - x2 / (8 : Int32) * (8 : Int32)) (fun v11 =>
  m_if (v10 = v11) (
  f_apartOf_130 self46 x1 x2 x3 (1 : Int32) x6 x7 v2 Ic9 Ac9
  ) (
  f_apartOf_135 self46 x1 x2 x3 (1 : Int32) x6 x7 v2 (0 : Int32) Ic9 Ac9
  )))
  ) (
  f_apartOf_130 self46 x1 x2 x3 (1 : Int32) x6 x7 v2 Ic9 Ac9
  )
  ) (
  f_apartOf_161 self46 x1 x2 x3 x4 x5 x6 x7 Ic9 Ac9
  ))))
  ) (
  f_apartOf_161 self46 x1 x2 x3 x4 x5 x6 x7 I A
  )))))))
  ))))
  )

set_option maxRecDepth 100000 in
set_option maxHeartbeats 4000000 in
theorem ws_apartOf_46 {p : Program} {l : Launch} {e : Env} {s : State} {m : MethodId} {args : Array Value} {below : List Frame} {meth : Method} {c : Code} {Q : State → Prop} {D : va_G} {cy ci : ClassId} {h : Nat → Nat} {A0 : Nat → Prop} {o : Int32 × MS} (X : CallFix p m c cX12_apartOf 9 s args wsX12_apartOf RX12) (hret : mRi p l e ({ frames := 2, cells := 0, slots := 0, locals := 43 } : Room) s m args below meth c Q cX12_apartOf D cy ci h A0 .int o) {self46 : Int32 → Int32 → Int32 → Int32 → Int32 → Int32 → Int32 → (Nat → Int32) → (Nat → Nat → Int32) → Option (Int32 × MS)} (hself46 : ∀ (x1 : Int32) (x2 : Int32) (x3 : Int32) (x4 : Int32) (x5 : Int32) (x6 : Int32) (x7 : Int32) (I : Nat → Int32) (A : Nat → Nat → Int32) (H : Heap) (locs : List Loc) (ls : Array Slot), self46 x1 x2 x3 x4 x5 x6 x7 I A = some o → mH D cy ci h A0 s H locs I A → lv_has ls 9 [(0, .ref (h 0)), (1, .int x1), (2, .int x2), (3, .int x3), (4, .int x4), (5, .int x5), (6, .int x6), (7, .int x7)] → W p l e ({ frames := 2, cells := 0, slots := 0, locals := 43 } : Room) s m args below meth c H locs 0 0 Q (F0 m 46 ls [])) {x1 : Int32} {x2 : Int32} {x3 : Int32} {x4 : Int32} {x5 : Int32} {x6 : Int32} {x7 : Int32} {I : Nat → Int32} {A : Nat → Nat → Int32} {H : Heap} {locs : List Loc} {ls : Array Slot} (hf : f_apartOf_46s self46 x1 x2 x3 x4 x5 x6 x7 I A = some o) (hM : mH D cy ci h A0 s H locs I A) (hl : lv_has ls 9 [(0, .ref (h 0)), (1, .int x1), (2, .int x2), (3, .int x3), (4, .int x4), (5, .int x5), (6, .int x6), (7, .int x7)]) : W p l e ({ frames := 2, cells := 0, slots := 0, locals := 43 } : Room) s m args below meth c H locs 0 0 Q (F0 m 46 ls []) := by
  obtain ⟨hx, hb, hml, hown, hts⟩ := id X
  unfold f_apartOf_46s at hf
  refine lv_iload hx hb dX12_apartOf_46 (lv_at hl 7 rfl) ?_
  refine lv_aload_n hx hb dX12_apartOf_48 rfl (lv_at hl 0 rfl) ?_
  refine m_get (v := .int (I 33)) X hw_apartOf hM 33 (by decide) fl_apartOf_33 rfl dX12_apartOf_49 ?_
  refine lv_icmp_ge (tgt := 167) hx hb dX12_apartOf_52 (by decide) (fun cc1 => ?_) (fun cc1 => ?_)
  · replace hf := m_ifT hf cc1
    refine lv_iload hx hb dX12_apartOf_167 (lv_at hl 4 rfl) ?_
    refine lv_if_ne (tgt := 176) hx hb dX12_apartOf_169 (by decide) (fun cc1 => ?_) (fun cc1 => ?_)
    · replace hf := m_ifF hf cc1
      refine lv_iload hx hb dX12_apartOf_176 (lv_at hl 5 rfl) ?_
      refine lv_if_ne (tgt := 185) hx hb dX12_apartOf_178 (by decide) (fun cc1 => ?_) (fun cc1 => ?_)
      · replace hf := m_ifF hf cc1
        refine lv_iload hx hb dX12_apartOf_185 (lv_at hl 6 rfl) ?_
        refine lv_if_ne (tgt := 194) hx hb dX12_apartOf_187 (by decide) (fun cc1 => ?_) (fun cc1 => ?_)
        · replace hf := m_ifF hf cc1
          refine lv_iconst (v := (3 : Int32)) hx hb dX12_apartOf_194 (by decide) ?_
          exact w_apartOf_195 X hret hf hM (lv_sub hl [] rfl)
        · replace hf := m_ifT hf cc1
          refine lv_iconst (v := (2 : Int32)) hx hb dX12_apartOf_190 (by decide) ?_
          refine lv_goto (tgt := 195) hx hb dX12_apartOf_191 (by decide) ?_
          exact w_apartOf_195 X hret hf hM (lv_sub hl [] rfl)
      · replace hf := m_ifT hf cc1
        refine lv_iconst (v := (1 : Int32)) hx hb dX12_apartOf_181 (by decide) ?_
        refine lv_goto (tgt := 195) hx hb dX12_apartOf_182 (by decide) ?_
        exact w_apartOf_195 X hret hf hM (lv_sub hl [] rfl)
    · replace hf := m_ifT hf cc1
      refine lv_iconst (v := (0 : Int32)) hx hb dX12_apartOf_172 (by decide) ?_
      refine lv_goto (tgt := 195) hx hb dX12_apartOf_173 (by decide) ?_
      exact w_apartOf_195 X hret hf hM (lv_sub hl [] rfl)
  · replace hf := m_ifF hf cc1
    refine lv_aload_n hx hb dX12_apartOf_55 rfl (lv_at hl 0 rfl) ?_
    refine m_get (v := .ref (h 32)) X hw_apartOf hM 32 (by decide) fl_apartOf_32 rfl dX12_apartOf_56 ?_
    refine lv_iload hx hb dX12_apartOf_59 (lv_at hl 7 rfl) ?_
    obtain ⟨cd, hf⟩ := m_chkE hf
    refine m_iald X hM 32 23 2048 rfl cd dX12_apartOf_61 ?_
    clear cd
    obtain ⟨v1, ev, hf⟩ := m_bndE hf
    refine m_top ev ?_
    clear ev
    refine lv_bipush (v := (64 : Int32)) hx hb dX12_apartOf_62 (by decide) ?_
    refine lv_irem hx hb dX12_apartOf_64 (by decide) ?_
    obtain ⟨v2, ev, hf⟩ := m_bndE hf
    refine m_top ev ?_
    clear ev
    refine lv_istore (lv' := [(8, .int v2), (0, .ref (h 0)), (1, .int x1), (2, .int x2), (3, .int x3), (4, .int x4), (5, .int x5), (6, .int x6), (7, .int x7)]) hx hb dX12_apartOf_65 hl (by decide) rfl (fun ls hl => ?_)
    refine lv_iload hx hb dX12_apartOf_67 (lv_at hl 0 rfl) ?_
    refine lv_iload_n hx hb dX12_apartOf_69 rfl (lv_at hl 3 rfl) ?_
    refine lv_icmp_eq (tgt := 161) hx hb dX12_apartOf_70 (by decide) (fun cc1 => ?_) (fun cc1 => ?_)
    · replace hf := m_ifT hf cc1
      exact w_apartOf_161 X hret hself46 hf hM (lv_sub hl [1, 2, 3, 4, 5, 6, 7, 8] rfl)
    · replace hf := m_ifF hf cc1
      refine lv_aload_n hx hb dX12_apartOf_73 rfl (lv_at hl 1 rfl) ?_
      refine m_get (v := .ref (h 32)) X hw_apartOf hM 32 (by decide) fl_apartOf_32 rfl dX12_apartOf_74 ?_
      refine lv_iload hx hb dX12_apartOf_77 (lv_at hl 8 rfl) ?_
      obtain ⟨cd, hf⟩ := m_chkE hf
      refine m_iald X hM 32 23 2048 rfl cd dX12_apartOf_79 ?_
      clear cd
      obtain ⟨v3, ev, hf⟩ := m_bndE hf
      refine m_top ev ?_
      clear ev
      refine lv_bipush (v := (64 : Int32)) hx hb dX12_apartOf_80 (by decide) ?_
      refine lv_idiv hx hb dX12_apartOf_82 (by decide) ?_
      obtain ⟨v4, ev, hf⟩ := m_bndE hf
      refine m_top ev ?_
      clear ev
      refine lv_bipush (v := (64 : Int32)) hx hb dX12_apartOf_83 (by decide) ?_
      refine lv_irem hx hb dX12_apartOf_85 (by decide) ?_
      obtain ⟨v5, ev, hf⟩ := m_bndE hf
      refine m_top ev ?_
      clear ev
      refine lv_iload_n hx hb dX12_apartOf_86 rfl (lv_at hl 2 rfl) ?_
      refine lv_bipush (v := (64 : Int32)) hx hb dX12_apartOf_87 (by decide) ?_
      refine lv_idiv hx hb dX12_apartOf_89 (by decide) ?_
      obtain ⟨v6, ev, hf⟩ := m_bndE hf
      refine m_top ev ?_
      clear ev
      refine lv_bipush (v := (64 : Int32)) hx hb dX12_apartOf_90 (by decide) ?_
      refine lv_irem hx hb dX12_apartOf_92 (by decide) ?_
      obtain ⟨v7, ev, hf⟩ := m_bndE hf
      refine m_top ev ?_
      clear ev
      refine lv_icmp_ne (tgt := 161) hx hb dX12_apartOf_93 (by decide) (fun cc1 => ?_) (fun cc1 => ?_)
      · replace hf := m_ifF hf cc1
        exact w_apartOf_161 X hret hself46 hf hM (lv_sub hl [1, 2, 3, 4, 5, 6, 7, 8] rfl)
      · replace hf := m_ifT hf cc1
        refine lv_aload_n hx hb dX12_apartOf_96 rfl (lv_at hl 1 rfl) ?_
        refine m_get (v := .ref (h 24)) X hw_apartOf hM 24 (by decide) fl_apartOf_24 rfl dX12_apartOf_97 ?_
        refine lv_iload hx hb dX12_apartOf_100 (lv_at hl 0 rfl) ?_
        obtain ⟨cd, hf⟩ := m_chkE hf
        refine m_iald X hM 24 20 64 rfl cd dX12_apartOf_102 ?_
        clear cd
        obtain ⟨v8, ev, hf⟩ := m_bndE hf
        refine m_top ev ?_
        clear ev
        obtain ⟨o9, ho, hf⟩ := m_clE hf
        refine m_callSi X hM (c_kind ho) gX12_apartOf_X12_kind rfl ⟨rfl, rfl⟩ hd_kind ⟨Nat.le_of_ble_eq_true rfl, Nat.le_of_ble_eq_true rfl⟩ rfl hl.1 rfl (Nat.le_of_ble_eq_true rfl) dX12_apartOf_103 (fun H locs hM => ?_)
        clear ho
        refine lv_iload_n hx hb dX12_apartOf_106 rfl (lv_at hl 4 rfl) ?_
        refine lv_icmp_ne (tgt := 161) hx hb dX12_apartOf_107 (by decide) (fun cc1 => ?_) (fun cc1 => ?_)
        · replace hf := m_ifF hf cc1
          exact w_apartOf_161 X hret hself46 hf hM (lv_sub hl [1, 2, 3, 4, 5, 6, 7, 8] rfl)
        · replace hf := m_ifT hf cc1
          refine lv_iconst (v := (1 : Int32)) hx hb dX12_apartOf_110 (by decide) ?_
          refine lv_istore (lv' := [(4, .int (1 : Int32)), (8, .int v2), (0, .ref (h 0)), (1, .int x1), (2, .int x2), (3, .int x3), (5, .int x5), (6, .int x6), (7, .int x7)]) hx hb dX12_apartOf_111 hl (by decide) rfl (fun ls hl => ?_)
          refine lv_iload hx hb dX12_apartOf_113 (lv_at hl 6 rfl) ?_
          refine lv_if_ne (tgt := 130) hx hb dX12_apartOf_115 (by decide) (fun cc1 => ?_) (fun cc1 => ?_)
          · replace hf := m_ifF hf cc1
            exact w_apartOf_130 X hret hself46 hf hM (lv_sub hl [2, 3, 4, 5, 0, 7, 8, 1] rfl)
          · replace hf := m_ifT hf cc1
            refine lv_iload hx hb dX12_apartOf_118 (lv_at hl 1 rfl) ?_
            refine lv_bipush (v := (8 : Int32)) hx hb dX12_apartOf_120 (by decide) ?_
            refine lv_irem hx hb dX12_apartOf_122 (by decide) ?_
            obtain ⟨v10, ev, hf⟩ := m_bndE hf
            refine m_top ev ?_
            clear ev
            refine lv_iload_n hx hb dX12_apartOf_123 rfl (lv_at hl 4 rfl) ?_
            refine lv_bipush (v := (8 : Int32)) hx hb dX12_apartOf_124 (by decide) ?_
            refine lv_irem hx hb dX12_apartOf_126 (by decide) ?_
            obtain ⟨v11, ev, hf⟩ := m_bndE hf
            refine m_top ev ?_
            clear ev
            refine lv_icmp_ne (tgt := 134) hx hb dX12_apartOf_127 (by decide) (fun cc1 => ?_) (fun cc1 => ?_)
            · replace hf := m_ifF hf cc1
              refine lv_iconst (v := (0 : Int32)) hx hb dX12_apartOf_134 (by decide) ?_
              exact w_apartOf_135 X hret hself46 hf hM (lv_sub hl [2, 3, 4, 5, 0, 7, 8, 1] rfl)
            · replace hf := m_ifT hf cc1
              exact w_apartOf_130 X hret hself46 hf hM (lv_sub hl [2, 3, 4, 5, 0, 7, 8, 1] rfl)
noncomputable def f_apartOf_46 : Nat → Int32 → Int32 → Int32 → Int32 → Int32 → Int32 → Int32 → (Nat → Int32) → (Nat → Nat → Int32) → Option (Int32 × MS)
  | 0 => fun _ _ _ _ _ _ _ _ _ => none
  | n + 1 => f_apartOf_46s (f_apartOf_46 n)
theorem w_apartOf_46 {p : Program} {l : Launch} {e : Env} {s : State} {m : MethodId} {args : Array Value} {below : List Frame} {meth : Method} {c : Code} {Q : State → Prop} {D : va_G} {cy ci : ClassId} {h : Nat → Nat} {A0 : Nat → Prop} {o : Int32 × MS} (X : CallFix p m c cX12_apartOf 9 s args wsX12_apartOf RX12) (hret : mRi p l e ({ frames := 2, cells := 0, slots := 0, locals := 43 } : Room) s m args below meth c Q cX12_apartOf D cy ci h A0 .int o) (n : Nat) : ∀ (x1 : Int32) (x2 : Int32) (x3 : Int32) (x4 : Int32) (x5 : Int32) (x6 : Int32) (x7 : Int32) (I : Nat → Int32) (A : Nat → Nat → Int32) (H : Heap) (locs : List Loc) (ls : Array Slot), f_apartOf_46 n x1 x2 x3 x4 x5 x6 x7 I A = some o → mH D cy ci h A0 s H locs I A → lv_has ls 9 [(0, .ref (h 0)), (1, .int x1), (2, .int x2), (3, .int x3), (4, .int x4), (5, .int x5), (6, .int x6), (7, .int x7)] → W p l e ({ frames := 2, cells := 0, slots := 0, locals := 43 } : Room) s m args below meth c H locs 0 0 Q (F0 m 46 ls []) := by
  induction n with
  | zero => intro x1 x2 x3 x4 x5 x6 x7 I A H locs ls hf; cases hf
  | succ n ih => intro x1 x2 x3 x4 x5 x6 x7 I A H locs ls hf hM hl; exact ws_apartOf_46 X hret (self46 := f_apartOf_46 n) ih hf hM hl
noncomputable def f_apartOf_33 (t0 : Int32) (I : Nat → Int32) (A : Nat → Nat → Int32) : Option (Int32 × MS) :=
  some (t0, (I, A))

set_option maxRecDepth 100000 in
set_option maxHeartbeats 4000000 in
theorem w_apartOf_33 {p : Program} {l : Launch} {e : Env} {s : State} {m : MethodId} {args : Array Value} {below : List Frame} {meth : Method} {c : Code} {Q : State → Prop} {D : va_G} {cy ci : ClassId} {h : Nat → Nat} {A0 : Nat → Prop} {o : Int32 × MS} (X : CallFix p m c cX12_apartOf 9 s args wsX12_apartOf RX12) (hret : mRi p l e ({ frames := 2, cells := 0, slots := 0, locals := 43 } : Room) s m args below meth c Q cX12_apartOf D cy ci h A0 .int o) {t0 : Int32} {I : Nat → Int32} {A : Nat → Nat → Int32} {H : Heap} {locs : List Loc} {ls : Array Slot} (hf : f_apartOf_33 t0 I A = some o) (hM : mH D cy ci h A0 s H locs I A) (hl : lv_has ls 9 []) : W p l e ({ frames := 2, cells := 0, slots := 0, locals := 43 } : Room) s m args below meth c H locs 0 0 Q (F0 m 33 ls [.int t0]) := by
  obtain ⟨hx, hb, hml, hown, hts⟩ := id X
  unfold f_apartOf_33 at hf
  cases hf
  exact hret H locs _ ls hM rfl dX12_apartOf_33
noncomputable def f_apartOf_0 (x1 : Int32) (I : Nat → Int32) (A : Nat → Nat → Int32) : Option (Int32 × MS) :=
  m_bnd (x1 - x1 / (64 : Int32) * (64 : Int32)) (fun v1 =>
  m_chk (¬ (v1 < 0 ∨ 64 ≤ (v1).toNatClampNeg)) (
  m_bnd (A 24 (v1).toNatClampNeg) (fun v2 =>
  m_cl (f_kind v2 I A) (fun r3 Ic3 Ac3 =>
  m_if (r3 = (1 : Int32)) (
  m_cl (f_isTaking x1 Ic3 Ac3) (fun r4 Ic4 Ac4 =>
  m_if (r4 = 0) (
  f_apartOf_33 (0 : Int32) Ic4 Ac4
  ) (
  f_apartOf_33 (1 : Int32) Ic4 Ac4
  ))
  ) (
  f_apartOf_46 mFuel x1 v1 r3 (0 : Int32) (0 : Int32) (0 : Int32) (0 : Int32) Ic3 Ac3
  )))))

set_option maxRecDepth 100000 in
set_option maxHeartbeats 4000000 in
theorem w_apartOf_0 {p : Program} {l : Launch} {e : Env} {s : State} {m : MethodId} {args : Array Value} {below : List Frame} {meth : Method} {c : Code} {Q : State → Prop} {D : va_G} {cy ci : ClassId} {h : Nat → Nat} {A0 : Nat → Prop} {o : Int32 × MS} (X : CallFix p m c cX12_apartOf 9 s args wsX12_apartOf RX12) (hret : mRi p l e ({ frames := 2, cells := 0, slots := 0, locals := 43 } : Room) s m args below meth c Q cX12_apartOf D cy ci h A0 .int o) {x1 : Int32} {I : Nat → Int32} {A : Nat → Nat → Int32} {H : Heap} {locs : List Loc} {ls : Array Slot} (hf : f_apartOf_0 x1 I A = some o) (hM : mH D cy ci h A0 s H locs I A) (hl : lv_has ls 9 [(0, .ref (h 0)), (1, .int x1)]) : W p l e ({ frames := 2, cells := 0, slots := 0, locals := 43 } : Room) s m args below meth c H locs 0 0 Q (F0 m 0 ls []) := by
  obtain ⟨hx, hb, hml, hown, hts⟩ := id X
  unfold f_apartOf_0 at hf
  refine lv_iload_n hx hb dX12_apartOf_0 rfl (lv_at hl 1 rfl) ?_
  refine lv_bipush (v := (64 : Int32)) hx hb dX12_apartOf_1 (by decide) ?_
  refine lv_irem hx hb dX12_apartOf_3 (by decide) ?_
  obtain ⟨v1, ev, hf⟩ := m_bndE hf
  refine m_top ev ?_
  clear ev
  refine lv_istore_n (lv' := [(2, .int v1), (0, .ref (h 0)), (1, .int x1)]) hx hb dX12_apartOf_4 rfl hl (by decide) rfl (fun ls hl => ?_)
  refine lv_aload_n hx hb dX12_apartOf_5 rfl (lv_at hl 1 rfl) ?_
  refine m_get (v := .ref (h 24)) X hw_apartOf hM 24 (by decide) fl_apartOf_24 rfl dX12_apartOf_6 ?_
  refine lv_iload_n hx hb dX12_apartOf_9 rfl (lv_at hl 0 rfl) ?_
  obtain ⟨cd, hf⟩ := m_chkE hf
  refine m_iald X hM 24 20 64 rfl cd dX12_apartOf_10 ?_
  clear cd
  obtain ⟨v2, ev, hf⟩ := m_bndE hf
  refine m_top ev ?_
  clear ev
  obtain ⟨o3, ho, hf⟩ := m_clE hf
  refine m_callSi X hM (c_kind ho) gX12_apartOf_X12_kind rfl ⟨rfl, rfl⟩ hd_kind ⟨Nat.le_of_ble_eq_true rfl, Nat.le_of_ble_eq_true rfl⟩ rfl hl.1 rfl (Nat.le_of_ble_eq_true rfl) dX12_apartOf_11 (fun H locs hM => ?_)
  clear ho
  refine lv_istore_n (lv' := [(3, .int o3.1), (2, .int v1), (0, .ref (h 0)), (1, .int x1)]) hx hb dX12_apartOf_14 rfl hl (by decide) rfl (fun ls hl => ?_)
  refine lv_iload_n hx hb dX12_apartOf_15 rfl (lv_at hl 0 rfl) ?_
  refine lv_iconst (v := (1 : Int32)) hx hb dX12_apartOf_16 (by decide) ?_
  refine lv_icmp_ne (tgt := 34) hx hb dX12_apartOf_17 (by decide) (fun cc1 => ?_) (fun cc1 => ?_)
  · replace hf := m_ifF hf cc1
    refine lv_iconst (v := (0 : Int32)) hx hb dX12_apartOf_34 (by decide) ?_
    refine lv_istore (lv' := [(4, .int (0 : Int32)), (3, .int o3.1), (2, .int v1), (0, .ref (h 0)), (1, .int x1)]) hx hb dX12_apartOf_35 hl (by decide) rfl (fun ls hl => ?_)
    refine lv_iconst (v := (0 : Int32)) hx hb dX12_apartOf_37 (by decide) ?_
    refine lv_istore (lv' := [(5, .int (0 : Int32)), (4, .int (0 : Int32)), (3, .int o3.1), (2, .int v1), (0, .ref (h 0)), (1, .int x1)]) hx hb dX12_apartOf_38 hl (by decide) rfl (fun ls hl => ?_)
    refine lv_iconst (v := (0 : Int32)) hx hb dX12_apartOf_40 (by decide) ?_
    refine lv_istore (lv' := [(6, .int (0 : Int32)), (5, .int (0 : Int32)), (4, .int (0 : Int32)), (3, .int o3.1), (2, .int v1), (0, .ref (h 0)), (1, .int x1)]) hx hb dX12_apartOf_41 hl (by decide) rfl (fun ls hl => ?_)
    refine lv_iconst (v := (0 : Int32)) hx hb dX12_apartOf_43 (by decide) ?_
    refine lv_istore (lv' := [(7, .int (0 : Int32)), (6, .int (0 : Int32)), (5, .int (0 : Int32)), (4, .int (0 : Int32)), (3, .int o3.1), (2, .int v1), (0, .ref (h 0)), (1, .int x1)]) hx hb dX12_apartOf_44 hl (by decide) rfl (fun ls hl => ?_)
    exact w_apartOf_46 X hret _ _ _ _ _ _ _ _ _ _ _ _ _ hf hM (lv_sub hl [6, 7, 5, 4, 3, 2, 1, 0] rfl)
  · replace hf := m_ifT hf cc1
    refine lv_aload_n hx hb dX12_apartOf_20 rfl (lv_at hl 2 rfl) ?_
    refine lv_iload_n hx hb dX12_apartOf_21 rfl (lv_at hl 3 rfl) ?_
    obtain ⟨o4, ho, hf⟩ := m_clE hf
    refine m_callVi X hM (c_isTaking ho) gX12_apartOf_X12_isTaking rfl ⟨rfl, rfl⟩ hd_isTaking ⟨Nat.le_of_ble_eq_true rfl, Nat.le_of_ble_eq_true rfl⟩ rfl hl.1 rfl (Nat.le_of_ble_eq_true rfl) dX12_apartOf_22 (fun H locs hM => ?_)
    clear ho
    refine lv_if_eq (tgt := 32) hx hb dX12_apartOf_25 (by decide) (fun cc1 => ?_) (fun cc1 => ?_)
    · replace hf := m_ifT hf cc1
      refine lv_iconst (v := (0 : Int32)) hx hb dX12_apartOf_32 (by decide) ?_
      exact w_apartOf_33 X hret hf hM (lv_sub hl [] rfl)
    · replace hf := m_ifF hf cc1
      refine lv_iconst (v := (1 : Int32)) hx hb dX12_apartOf_28 (by decide) ?_
      refine lv_goto (tgt := 33) hx hb dX12_apartOf_29 (by decide) ?_
      exact w_apartOf_33 X hret hf hM (lv_sub hl [] rfl)
noncomputable def f_apartOf (x1 : Int32) (I : Nat → Int32) (A : Nat → Nat → Int32) : Option (Int32 × MS) := f_apartOf_0 x1 I A
theorem c_apartOf {l : Launch} {D : va_G} {cy ci : ClassId} {h : Nat → Nat} {x1 : Int32} {I : Nat → Int32} {A : Nat → Nat → Int32} {o : Int32 × MS} (hf : f_apartOf x1 I A = some o) : mMi l yX12_apartOf wsX12_apartOf ({ frames := 2, cells := 0, slots := 0, locals := 43 } : Room) [.ref (h 0), .int x1] D cy ci h I A o :=
  m_entryI (cc := cX12_apartOf) (maxL := 9) (by decide) rfl rfl (Nat.le_of_ble_eq_true rfl) (fun p e s m args below meth c A0 Q H locs ls X hret hM hl => w_apartOf_0 X hret hf hM (lv_sub hl [0, 1] rfl))
theorem hd_spellWhole : yX12_spellWhole.cls = RX12 ∧ yX12_spellWhole.cls ≠ "java/lang/invoke/MethodHandle" ∧ yX12_spellWhole.cls ≠ "java/lang/invoke/VarHandle" ∧ (parseMethodDescriptor yX12_spellWhole.desc).map (fun d => d.parameters.length) = some 1 := by decide +kernel
noncomputable def f_spellWhole_30 (I : Nat → Int32) (A : Nat → Nat → Int32) : Option (Int32 × MS) :=
  some (0, (I, A))

set_option maxRecDepth 100000 in
set_option maxHeartbeats 4000000 in
theorem w_spellWhole_30 {p : Program} {l : Launch} {e : Env} {s : State} {m : MethodId} {args : Array Value} {below : List Frame} {meth : Method} {c : Code} {Q : State → Prop} {D : va_G} {cy ci : ClassId} {h : Nat → Nat} {A0 : Nat → Prop} {o : Int32 × MS} (X : CallFix p m c cX12_spellWhole 3 s args wsX12_spellWhole RX12) (hret : mRv p l e ({ frames := 6, cells := 0, slots := 0, locals := 156 } : Room) s m args below meth c Q cX12_spellWhole D cy ci h A0 o) {I : Nat → Int32} {A : Nat → Nat → Int32} {H : Heap} {locs : List Loc} {ls : Array Slot} (hf : f_spellWhole_30  I A = some o) (hM : mH D cy ci h A0 s H locs I A) (hl : lv_has ls 3 []) : W p l e ({ frames := 6, cells := 0, slots := 0, locals := 156 } : Room) s m args below meth c H locs 0 0 Q (F0 m 30 ls []) := by
  obtain ⟨hx, hb, hml, hown, hts⟩ := id X
  unfold f_spellWhole_30 at hf
  cases hf
  exact hret H locs _ ls hM dX12_spellWhole_30
noncomputable def f_spellWhole_0 (x1 : Int32) (I : Nat → Int32) (A : Nat → Nat → Int32) : Option (Int32 × MS) :=
  m_cl (f_apartOf x1 I A) (fun r1 Ic1 Ac1 =>
  m_cl (f_isTaking x1 Ic1 Ac1) (fun r2 Ic2 Ac2 =>
  m_cl (f_spellMove x1 r1 r2 Ic2 Ac2) (fun r3 Ic3 Ac3 =>
  m_cl (f_behind x1 Ic3 Ac3) (fun r4 Ic4 Ac4 =>
  m_if (r4 = 0) (
  f_spellWhole_30  Ic4 Ac4
  ) (
  m_cl (f_spell r4 Ic4 Ac4) (fun r5 Ic5 Ac5 =>
  f_spellWhole_30  Ic5 Ac5)
  )))))

set_option maxRecDepth 100000 in
set_option maxHeartbeats 4000000 in
theorem w_spellWhole_0 {p : Program} {l : Launch} {e : Env} {s : State} {m : MethodId} {args : Array Value} {below : List Frame} {meth : Method} {c : Code} {Q : State → Prop} {D : va_G} {cy ci : ClassId} {h : Nat → Nat} {A0 : Nat → Prop} {o : Int32 × MS} (X : CallFix p m c cX12_spellWhole 3 s args wsX12_spellWhole RX12) (hret : mRv p l e ({ frames := 6, cells := 0, slots := 0, locals := 156 } : Room) s m args below meth c Q cX12_spellWhole D cy ci h A0 o) {x1 : Int32} {I : Nat → Int32} {A : Nat → Nat → Int32} {H : Heap} {locs : List Loc} {ls : Array Slot} (hf : f_spellWhole_0 x1 I A = some o) (hM : mH D cy ci h A0 s H locs I A) (hl : lv_has ls 3 [(0, .ref (h 0)), (1, .int x1)]) : W p l e ({ frames := 6, cells := 0, slots := 0, locals := 156 } : Room) s m args below meth c H locs 0 0 Q (F0 m 0 ls []) := by
  obtain ⟨hx, hb, hml, hown, hts⟩ := id X
  unfold f_spellWhole_0 at hf
  refine lv_aload_n hx hb dX12_spellWhole_0 rfl (lv_at hl 0 rfl) ?_
  refine lv_iload_n hx hb dX12_spellWhole_1 rfl (lv_at hl 1 rfl) ?_
  refine lv_aload_n hx hb dX12_spellWhole_2 rfl (lv_at hl 0 rfl) ?_
  refine lv_iload_n hx hb dX12_spellWhole_3 rfl (lv_at hl 1 rfl) ?_
  obtain ⟨o1, ho, hf⟩ := m_clE hf
  refine m_callVi X hM (c_apartOf ho) gX12_spellWhole_X12_apartOf rfl ⟨rfl, rfl⟩ hd_apartOf ⟨Nat.le_of_ble_eq_true rfl, Nat.le_of_ble_eq_true rfl⟩ rfl hl.1 rfl (Nat.le_of_ble_eq_true rfl) dX12_spellWhole_4 (fun H locs hM => ?_)
  clear ho
  refine lv_aload_n hx hb dX12_spellWhole_7 rfl (lv_at hl 0 rfl) ?_
  refine lv_iload_n hx hb dX12_spellWhole_8 rfl (lv_at hl 1 rfl) ?_
  obtain ⟨o2, ho, hf⟩ := m_clE hf
  refine m_callVi X hM (c_isTaking ho) gX12_spellWhole_X12_isTaking rfl ⟨rfl, rfl⟩ hd_isTaking ⟨Nat.le_of_ble_eq_true rfl, Nat.le_of_ble_eq_true rfl⟩ rfl hl.1 rfl (Nat.le_of_ble_eq_true rfl) dX12_spellWhole_9 (fun H locs hM => ?_)
  clear ho
  obtain ⟨o3, ho, hf⟩ := m_clE hf
  refine m_callVv X hM (c_spellMove ho) gX12_spellWhole_X12_spellMove rfl ⟨rfl, rfl⟩ hd_spellMove ⟨Nat.le_of_ble_eq_true rfl, Nat.le_of_ble_eq_true rfl⟩ rfl hl.1 rfl (Nat.le_of_ble_eq_true rfl) dX12_spellWhole_12 (fun H locs hM => ?_)
  clear ho
  refine lv_aload_n hx hb dX12_spellWhole_15 rfl (lv_at hl 0 rfl) ?_
  refine lv_iload_n hx hb dX12_spellWhole_16 rfl (lv_at hl 1 rfl) ?_
  obtain ⟨o4, ho, hf⟩ := m_clE hf
  refine m_callVi X hM (c_behind ho) gX12_spellWhole_X12_behind rfl ⟨rfl, rfl⟩ hd_behind ⟨Nat.le_of_ble_eq_true rfl, Nat.le_of_ble_eq_true rfl⟩ rfl hl.1 rfl (Nat.le_of_ble_eq_true rfl) dX12_spellWhole_17 (fun H locs hM => ?_)
  clear ho
  refine lv_istore_n (lv' := [(2, .int o4.1), (0, .ref (h 0)), (1, .int x1)]) hx hb dX12_spellWhole_20 rfl hl (by decide) rfl (fun ls hl => ?_)
  refine lv_iload_n hx hb dX12_spellWhole_21 rfl (lv_at hl 0 rfl) ?_
  refine lv_if_eq (tgt := 30) hx hb dX12_spellWhole_22 (by decide) (fun cc1 => ?_) (fun cc1 => ?_)
  · replace hf := m_ifT hf cc1
    exact w_spellWhole_30 X hret hf hM (lv_sub hl [] rfl)
  · replace hf := m_ifF hf cc1
    refine lv_aload_n hx hb dX12_spellWhole_25 rfl (lv_at hl 1 rfl) ?_
    refine lv_iload_n hx hb dX12_spellWhole_26 rfl (lv_at hl 0 rfl) ?_
    obtain ⟨o5, ho, hf⟩ := m_clE hf
    refine m_callVv X hM (c_spell ho) gX12_spellWhole_X12_spell rfl ⟨rfl, rfl⟩ hd_spell ⟨Nat.le_of_ble_eq_true rfl, Nat.le_of_ble_eq_true rfl⟩ rfl hl.1 rfl (Nat.le_of_ble_eq_true rfl) dX12_spellWhole_27 (fun H locs hM => ?_)
    clear ho
    exact w_spellWhole_30 X hret hf hM (lv_sub hl [] rfl)
noncomputable def f_spellWhole (x1 : Int32) (I : Nat → Int32) (A : Nat → Nat → Int32) : Option (Int32 × MS) := f_spellWhole_0 x1 I A
theorem c_spellWhole {l : Launch} {D : va_G} {cy ci : ClassId} {h : Nat → Nat} {x1 : Int32} {I : Nat → Int32} {A : Nat → Nat → Int32} {o : Int32 × MS} (hf : f_spellWhole x1 I A = some o) : mMv l yX12_spellWhole wsX12_spellWhole ({ frames := 6, cells := 0, slots := 0, locals := 156 } : Room) [.ref (h 0), .int x1] D cy ci h I A o :=
  m_entryV (cc := cX12_spellWhole) (maxL := 3) (by decide) rfl rfl (Nat.le_of_ble_eq_true rfl) (fun p e s m args below meth c A0 Q H locs ls X hret hM hl => w_spellWhole_0 X hret hf hM (lv_sub hl [0, 1] rfl))
theorem hw_isSpelled : ∀ w ∈ wsX120, w ∈ wsX12_isSpelled := by decide +kernel
theorem fl_isSpelled_2 : Cond.fieldLink RX12 7 "MoveTextsModel" "text" "[C" ∈ wsX12_isSpelled := by decide +kernel
theorem fl_isSpelled_35 : Cond.fieldLink RX12 85 "MoveTextsModel" "spelled" "[C" ∈ wsX12_isSpelled := by decide +kernel
theorem fl_isSpelled_36 : Cond.fieldLink RX12 191 "MoveTextsModel" "spelledSize" "I" ∈ wsX12_isSpelled := by decide +kernel
theorem hd_isSpelled : yX12_isSpelled.cls = RX12 ∧ yX12_isSpelled.cls ≠ "java/lang/invoke/MethodHandle" ∧ yX12_isSpelled.cls ≠ "java/lang/invoke/VarHandle" ∧ (parseMethodDescriptor yX12_isSpelled.desc).map (fun d => d.parameters.length) = some 3 := by decide +kernel
noncomputable def f_isSpelled_92 (t0 : Int32) (I : Nat → Int32) (A : Nat → Nat → Int32) : Option (Int32 × MS) :=
  m_chk (vp_nar .boolean t0 = t0) (some (t0, (I, A)))

set_option maxRecDepth 100000 in
set_option maxHeartbeats 4000000 in
theorem w_isSpelled_92 {p : Program} {l : Launch} {e : Env} {s : State} {m : MethodId} {args : Array Value} {below : List Frame} {meth : Method} {c : Code} {Q : State → Prop} {D : va_G} {cy ci : ClassId} {h : Nat → Nat} {A0 : Nat → Prop} {o : Int32 × MS} (X : CallFix p m c cX12_isSpelled 7 s args wsX12_isSpelled RX12) (hret : mRi p l e ({ frames := 0, cells := 0, slots := 0, locals := 0 } : Room) s m args below meth c Q cX12_isSpelled D cy ci h A0 .boolean o) {t0 : Int32} {I : Nat → Int32} {A : Nat → Nat → Int32} {H : Heap} {locs : List Loc} {ls : Array Slot} (hf : f_isSpelled_92 t0 I A = some o) (hM : mH D cy ci h A0 s H locs I A) (hl : lv_has ls 7 []) : W p l e ({ frames := 0, cells := 0, slots := 0, locals := 0 } : Room) s m args below meth c H locs 0 0 Q (F0 m 92 ls [.int t0]) := by
  obtain ⟨hx, hb, hml, hown, hts⟩ := id X
  unfold f_isSpelled_92 at hf
  obtain ⟨cd, hf⟩ := m_chkE hf
  cases hf
  exact hret H locs _ ls hM (m_nb cd) dX12_isSpelled_92
noncomputable def f_isSpelled_67 (I : Nat → Int32) (A : Nat → Nat → Int32) : Option (Int32 × MS) :=
  m_chk (vp_nar .boolean (0 : Int32) = (0 : Int32)) (some ((0 : Int32), (I, A)))

set_option maxRecDepth 100000 in
set_option maxHeartbeats 4000000 in
theorem w_isSpelled_67 {p : Program} {l : Launch} {e : Env} {s : State} {m : MethodId} {args : Array Value} {below : List Frame} {meth : Method} {c : Code} {Q : State → Prop} {D : va_G} {cy ci : ClassId} {h : Nat → Nat} {A0 : Nat → Prop} {o : Int32 × MS} (X : CallFix p m c cX12_isSpelled 7 s args wsX12_isSpelled RX12) (hret : mRi p l e ({ frames := 0, cells := 0, slots := 0, locals := 0 } : Room) s m args below meth c Q cX12_isSpelled D cy ci h A0 .boolean o) {I : Nat → Int32} {A : Nat → Nat → Int32} {H : Heap} {locs : List Loc} {ls : Array Slot} (hf : f_isSpelled_67  I A = some o) (hM : mH D cy ci h A0 s H locs I A) (hl : lv_has ls 7 []) : W p l e ({ frames := 0, cells := 0, slots := 0, locals := 0 } : Room) s m args below meth c H locs 0 0 Q (F0 m 67 ls []) := by
  obtain ⟨hx, hb, hml, hown, hts⟩ := id X
  unfold f_isSpelled_67 at hf
  refine lv_iconst (v := (0 : Int32)) hx hb dX12_isSpelled_67 (by decide) ?_
  obtain ⟨cd, hf⟩ := m_chkE hf
  cases hf
  exact hret H locs _ ls hM (m_nb cd) dX12_isSpelled_68
noncomputable def f_isSpelled_72 (self6 : Int32 → Int32 → Int32 → Int32 → (Nat → Int32) → (Nat → Nat → Int32) → Option (Int32 × MS)) (x2 : Int32) (x3 : Int32) (x4 : Int32) (x5 : Int32) (I : Nat → Int32) (A : Nat → Nat → Int32) : Option (Int32 × MS) :=
  m_bnd (x5 + (1 : Int32)) (fun v1 =>
  self6 x2 x3 x4 v1 I A)

set_option maxRecDepth 100000 in
set_option maxHeartbeats 4000000 in
theorem w_isSpelled_72 {p : Program} {l : Launch} {e : Env} {s : State} {m : MethodId} {args : Array Value} {below : List Frame} {meth : Method} {c : Code} {Q : State → Prop} {D : va_G} {cy ci : ClassId} {h : Nat → Nat} {A0 : Nat → Prop} {o : Int32 × MS} (X : CallFix p m c cX12_isSpelled 7 s args wsX12_isSpelled RX12) (hret : mRi p l e ({ frames := 0, cells := 0, slots := 0, locals := 0 } : Room) s m args below meth c Q cX12_isSpelled D cy ci h A0 .boolean o) {self6 : Int32 → Int32 → Int32 → Int32 → (Nat → Int32) → (Nat → Nat → Int32) → Option (Int32 × MS)} (hself6 : ∀ (x2 : Int32) (x3 : Int32) (x4 : Int32) (x5 : Int32) (I : Nat → Int32) (A : Nat → Nat → Int32) (H : Heap) (locs : List Loc) (ls : Array Slot), self6 x2 x3 x4 x5 I A = some o → mH D cy ci h A0 s H locs I A → lv_has ls 7 [(0, .ref (h 0)), (2, .int x2), (3, .int x3), (4, .int x4), (5, .int x5)] → W p l e ({ frames := 0, cells := 0, slots := 0, locals := 0 } : Room) s m args below meth c H locs 0 0 Q (F0 m 6 ls [])) {x2 : Int32} {x3 : Int32} {x4 : Int32} {x5 : Int32} {I : Nat → Int32} {A : Nat → Nat → Int32} {H : Heap} {locs : List Loc} {ls : Array Slot} (hf : f_isSpelled_72 self6 x2 x3 x4 x5 I A = some o) (hM : mH D cy ci h A0 s H locs I A) (hl : lv_has ls 7 [(0, .ref (h 0)), (2, .int x2), (3, .int x3), (4, .int x4), (5, .int x5)]) : W p l e ({ frames := 0, cells := 0, slots := 0, locals := 0 } : Room) s m args below meth c H locs 0 0 Q (F0 m 72 ls []) := by
  obtain ⟨hx, hb, hml, hown, hts⟩ := id X
  unfold f_isSpelled_72 at hf
  obtain ⟨v1, ev, hf⟩ := m_bndE hf
  refine lv_iinc (v := v1) (lv' := [(5, .int v1), (0, .ref (h 0)), (2, .int x2), (3, .int x3), (4, .int x4)]) hx hb dX12_isSpelled_72 hl (k := 4) rfl (by rw [ev]; rfl) (by decide) rfl (fun ls hl => ?_)
  clear ev
  refine lv_goto (tgt := 6) hx hb dX12_isSpelled_75 (by decide) ?_
  exact hself6 _ _ _ _ _ _ _ _ _ hf hM (lv_sub hl [1, 2, 3, 4, 0] rfl)
noncomputable def f_isSpelled_46 (self6 : Int32 → Int32 → Int32 → Int32 → (Nat → Int32) → (Nat → Nat → Int32) → Option (Int32 × MS)) (x2 : Int32) (x3 : Int32) (x4 : Int32) (x5 : Int32) (x6 : Int32) (I : Nat → Int32) (A : Nat → Nat → Int32) : Option (Int32 × MS) :=
  m_if (x4 = (I 36)) (
  f_isSpelled_67  I A
  ) (
  m_chk (¬ (x4 < 0 ∨ 16 ≤ (x4).toNatClampNeg)) (
  m_bnd (A 35 (x4).toNatClampNeg) (fun v1 =>
  m_if (v1 = x6) (
  m_bnd (x4 + (1 : Int32)) (fun v2 =>
  f_isSpelled_72 self6 x2 x3 v2 x5 I A)
  ) (
  f_isSpelled_67  I A
  )))
  )

set_option maxRecDepth 100000 in
set_option maxHeartbeats 4000000 in
theorem w_isSpelled_46 {p : Program} {l : Launch} {e : Env} {s : State} {m : MethodId} {args : Array Value} {below : List Frame} {meth : Method} {c : Code} {Q : State → Prop} {D : va_G} {cy ci : ClassId} {h : Nat → Nat} {A0 : Nat → Prop} {o : Int32 × MS} (X : CallFix p m c cX12_isSpelled 7 s args wsX12_isSpelled RX12) (hret : mRi p l e ({ frames := 0, cells := 0, slots := 0, locals := 0 } : Room) s m args below meth c Q cX12_isSpelled D cy ci h A0 .boolean o) {self6 : Int32 → Int32 → Int32 → Int32 → (Nat → Int32) → (Nat → Nat → Int32) → Option (Int32 × MS)} (hself6 : ∀ (x2 : Int32) (x3 : Int32) (x4 : Int32) (x5 : Int32) (I : Nat → Int32) (A : Nat → Nat → Int32) (H : Heap) (locs : List Loc) (ls : Array Slot), self6 x2 x3 x4 x5 I A = some o → mH D cy ci h A0 s H locs I A → lv_has ls 7 [(0, .ref (h 0)), (2, .int x2), (3, .int x3), (4, .int x4), (5, .int x5)] → W p l e ({ frames := 0, cells := 0, slots := 0, locals := 0 } : Room) s m args below meth c H locs 0 0 Q (F0 m 6 ls [])) {x2 : Int32} {x3 : Int32} {x4 : Int32} {x5 : Int32} {x6 : Int32} {I : Nat → Int32} {A : Nat → Nat → Int32} {H : Heap} {locs : List Loc} {ls : Array Slot} (hf : f_isSpelled_46 self6 x2 x3 x4 x5 x6 I A = some o) (hM : mH D cy ci h A0 s H locs I A) (hl : lv_has ls 7 [(0, .ref (h 0)), (2, .int x2), (3, .int x3), (4, .int x4), (5, .int x5), (6, .int x6)]) : W p l e ({ frames := 0, cells := 0, slots := 0, locals := 0 } : Room) s m args below meth c H locs 0 0 Q (F0 m 46 ls []) := by
  obtain ⟨hx, hb, hml, hown, hts⟩ := id X
  unfold f_isSpelled_46 at hf
  refine lv_iload hx hb dX12_isSpelled_46 (lv_at hl 3 rfl) ?_
  refine lv_aload_n hx hb dX12_isSpelled_48 rfl (lv_at hl 0 rfl) ?_
  refine m_get (v := .int (I 36)) X hw_isSpelled hM 36 (by decide) fl_isSpelled_36 rfl dX12_isSpelled_49 ?_
  refine lv_icmp_eq (tgt := 67) hx hb dX12_isSpelled_52 (by decide) (fun cc1 => ?_) (fun cc1 => ?_)
  · replace hf := m_ifT hf cc1
    exact w_isSpelled_67 X hret hf hM (lv_sub hl [] rfl)
  · replace hf := m_ifF hf cc1
    refine lv_aload_n hx hb dX12_isSpelled_55 rfl (lv_at hl 0 rfl) ?_
    refine m_get (v := .ref (h 35)) X hw_isSpelled hM 35 (by decide) fl_isSpelled_35 rfl dX12_isSpelled_56 ?_
    refine lv_iload hx hb dX12_isSpelled_59 (lv_at hl 3 rfl) ?_
    obtain ⟨cd, hf⟩ := m_chkE hf
    refine m_cald X hM 35 25 16 rfl cd dX12_isSpelled_61 ?_
    clear cd
    obtain ⟨v1, ev, hf⟩ := m_bndE hf
    refine m_top ev ?_
    clear ev
    refine lv_iload hx hb dX12_isSpelled_62 (lv_at hl 5 rfl) ?_
    refine lv_icmp_eq (tgt := 69) hx hb dX12_isSpelled_64 (by decide) (fun cc1 => ?_) (fun cc1 => ?_)
    · replace hf := m_ifT hf cc1
      obtain ⟨v2, ev, hf⟩ := m_bndE hf
      refine lv_iinc (v := v2) (lv' := [(4, .int v2), (0, .ref (h 0)), (2, .int x2), (3, .int x3), (5, .int x5), (6, .int x6)]) hx hb dX12_isSpelled_69 hl (k := 3) rfl (by rw [ev]; rfl) (by decide) rfl (fun ls hl => ?_)
      clear ev
      exact w_isSpelled_72 X hret hself6 hf hM (lv_sub hl [1, 2, 3, 0, 4] rfl)
    · replace hf := m_ifF hf cc1
      exact w_isSpelled_67 X hret hf hM (lv_sub hl [] rfl)
noncomputable def f_isSpelled_6s (self6 : Int32 → Int32 → Int32 → Int32 → (Nat → Int32) → (Nat → Nat → Int32) → Option (Int32 × MS)) (x2 : Int32) (x3 : Int32) (x4 : Int32) (x5 : Int32) (I : Nat → Int32) (A : Nat → Nat → Int32) : Option (Int32 × MS) :=
  m_if (x2 ≤ x5) (
  m_if (x4 = (I 36)) (
  f_isSpelled_92 (1 : Int32) I A
  ) (
  f_isSpelled_92 (0 : Int32) I A
  )
  ) (
  m_chk (¬ (x5 < 0 ∨ 2000 ≤ (x5).toNatClampNeg)) (
  m_bnd (A 2 (x5).toNatClampNeg) (fun v1 =>
  m_if (x3 = 0) (
  f_isSpelled_46 self6 x2 x3 x4 x5 v1 I A
  ) (
  m_if (v1 = (120 : Int32)) (
  f_isSpelled_72 self6 x2 x3 x4 x5 I A
  ) (
  m_if (v1 = (43 : Int32)) (
  f_isSpelled_72 self6 x2 x3 x4 x5 I A
  ) (
  m_if (v1 = (35 : Int32)) (
  f_isSpelled_72 self6 x2 x3 x4 x5 I A
  ) (
  f_isSpelled_46 self6 x2 x3 x4 x5 v1 I A
  )
  )
  )
  )))
  )

set_option maxRecDepth 100000 in
set_option maxHeartbeats 4000000 in
theorem ws_isSpelled_6 {p : Program} {l : Launch} {e : Env} {s : State} {m : MethodId} {args : Array Value} {below : List Frame} {meth : Method} {c : Code} {Q : State → Prop} {D : va_G} {cy ci : ClassId} {h : Nat → Nat} {A0 : Nat → Prop} {o : Int32 × MS} (X : CallFix p m c cX12_isSpelled 7 s args wsX12_isSpelled RX12) (hret : mRi p l e ({ frames := 0, cells := 0, slots := 0, locals := 0 } : Room) s m args below meth c Q cX12_isSpelled D cy ci h A0 .boolean o) {self6 : Int32 → Int32 → Int32 → Int32 → (Nat → Int32) → (Nat → Nat → Int32) → Option (Int32 × MS)} (hself6 : ∀ (x2 : Int32) (x3 : Int32) (x4 : Int32) (x5 : Int32) (I : Nat → Int32) (A : Nat → Nat → Int32) (H : Heap) (locs : List Loc) (ls : Array Slot), self6 x2 x3 x4 x5 I A = some o → mH D cy ci h A0 s H locs I A → lv_has ls 7 [(0, .ref (h 0)), (2, .int x2), (3, .int x3), (4, .int x4), (5, .int x5)] → W p l e ({ frames := 0, cells := 0, slots := 0, locals := 0 } : Room) s m args below meth c H locs 0 0 Q (F0 m 6 ls [])) {x2 : Int32} {x3 : Int32} {x4 : Int32} {x5 : Int32} {I : Nat → Int32} {A : Nat → Nat → Int32} {H : Heap} {locs : List Loc} {ls : Array Slot} (hf : f_isSpelled_6s self6 x2 x3 x4 x5 I A = some o) (hM : mH D cy ci h A0 s H locs I A) (hl : lv_has ls 7 [(0, .ref (h 0)), (2, .int x2), (3, .int x3), (4, .int x4), (5, .int x5)]) : W p l e ({ frames := 0, cells := 0, slots := 0, locals := 0 } : Room) s m args below meth c H locs 0 0 Q (F0 m 6 ls []) := by
  obtain ⟨hx, hb, hml, hown, hts⟩ := id X
  unfold f_isSpelled_6s at hf
  refine lv_iload hx hb dX12_isSpelled_6 (lv_at hl 4 rfl) ?_
  refine lv_iload_n hx hb dX12_isSpelled_8 rfl (lv_at hl 1 rfl) ?_
  refine lv_icmp_ge (tgt := 78) hx hb dX12_isSpelled_9 (by decide) (fun cc1 => ?_) (fun cc1 => ?_)
  · replace hf := m_ifT hf cc1
    refine lv_iload hx hb dX12_isSpelled_78 (lv_at hl 3 rfl) ?_
    refine lv_aload_n hx hb dX12_isSpelled_80 rfl (lv_at hl 0 rfl) ?_
    refine m_get (v := .int (I 36)) X hw_isSpelled hM 36 (by decide) fl_isSpelled_36 rfl dX12_isSpelled_81 ?_
    refine lv_icmp_ne (tgt := 91) hx hb dX12_isSpelled_84 (by decide) (fun cc1 => ?_) (fun cc1 => ?_)
    · replace hf := m_ifF hf cc1
      refine lv_iconst (v := (0 : Int32)) hx hb dX12_isSpelled_91 (by decide) ?_
      exact w_isSpelled_92 X hret hf hM (lv_sub hl [] rfl)
    · replace hf := m_ifT hf cc1
      refine lv_iconst (v := (1 : Int32)) hx hb dX12_isSpelled_87 (by decide) ?_
      refine lv_goto (tgt := 92) hx hb dX12_isSpelled_88 (by decide) ?_
      exact w_isSpelled_92 X hret hf hM (lv_sub hl [] rfl)
  · replace hf := m_ifF hf cc1
    refine lv_aload_n hx hb dX12_isSpelled_12 rfl (lv_at hl 0 rfl) ?_
    refine m_get (v := .ref (h 2)) X hw_isSpelled hM 2 (by decide) fl_isSpelled_2 rfl dX12_isSpelled_13 ?_
    refine lv_iload hx hb dX12_isSpelled_16 (lv_at hl 4 rfl) ?_
    obtain ⟨cd, hf⟩ := m_chkE hf
    refine m_cald X hM 2 1 2000 rfl cd dX12_isSpelled_18 ?_
    clear cd
    obtain ⟨v1, ev, hf⟩ := m_bndE hf
    refine m_top ev ?_
    clear ev
    refine lv_istore (lv' := [(6, .int v1), (0, .ref (h 0)), (2, .int x2), (3, .int x3), (4, .int x4), (5, .int x5)]) hx hb dX12_isSpelled_19 hl (by decide) rfl (fun ls hl => ?_)
    refine lv_iload_n hx hb dX12_isSpelled_21 rfl (lv_at hl 3 rfl) ?_
    refine lv_if_eq (tgt := 46) hx hb dX12_isSpelled_22 (by decide) (fun cc1 => ?_) (fun cc1 => ?_)
    · replace hf := m_ifT hf cc1
      exact w_isSpelled_46 X hret hself6 hf hM (lv_sub hl [1, 2, 3, 4, 5, 0] rfl)
    · replace hf := m_ifF hf cc1
      refine lv_iload hx hb dX12_isSpelled_25 (lv_at hl 0 rfl) ?_
      refine lv_bipush (v := (120 : Int32)) hx hb dX12_isSpelled_27 (by decide) ?_
      refine lv_icmp_eq (tgt := 72) hx hb dX12_isSpelled_29 (by decide) (fun cc1 => ?_) (fun cc1 => ?_)
      · replace hf := m_ifT hf cc1
        exact w_isSpelled_72 X hret hself6 hf hM (lv_sub hl [1, 2, 3, 4, 5] rfl)
      · replace hf := m_ifF hf cc1
        refine lv_iload hx hb dX12_isSpelled_32 (lv_at hl 0 rfl) ?_
        refine lv_bipush (v := (43 : Int32)) hx hb dX12_isSpelled_34 (by decide) ?_
        refine lv_icmp_eq (tgt := 72) hx hb dX12_isSpelled_36 (by decide) (fun cc1 => ?_) (fun cc1 => ?_)
        · replace hf := m_ifT hf cc1
          exact w_isSpelled_72 X hret hself6 hf hM (lv_sub hl [1, 2, 3, 4, 5] rfl)
        · replace hf := m_ifF hf cc1
          refine lv_iload hx hb dX12_isSpelled_39 (lv_at hl 0 rfl) ?_
          refine lv_bipush (v := (35 : Int32)) hx hb dX12_isSpelled_41 (by decide) ?_
          refine lv_icmp_eq (tgt := 72) hx hb dX12_isSpelled_43 (by decide) (fun cc1 => ?_) (fun cc1 => ?_)
          · replace hf := m_ifT hf cc1
            exact w_isSpelled_72 X hret hself6 hf hM (lv_sub hl [1, 2, 3, 4, 5] rfl)
          · replace hf := m_ifF hf cc1
            exact w_isSpelled_46 X hret hself6 hf hM (lv_sub hl [1, 2, 3, 4, 5, 0] rfl)
noncomputable def f_isSpelled_6 : Nat → Int32 → Int32 → Int32 → Int32 → (Nat → Int32) → (Nat → Nat → Int32) → Option (Int32 × MS)
  | 0 => fun _ _ _ _ _ _ => none
  | n + 1 => f_isSpelled_6s (f_isSpelled_6 n)
theorem w_isSpelled_6 {p : Program} {l : Launch} {e : Env} {s : State} {m : MethodId} {args : Array Value} {below : List Frame} {meth : Method} {c : Code} {Q : State → Prop} {D : va_G} {cy ci : ClassId} {h : Nat → Nat} {A0 : Nat → Prop} {o : Int32 × MS} (X : CallFix p m c cX12_isSpelled 7 s args wsX12_isSpelled RX12) (hret : mRi p l e ({ frames := 0, cells := 0, slots := 0, locals := 0 } : Room) s m args below meth c Q cX12_isSpelled D cy ci h A0 .boolean o) (n : Nat) : ∀ (x2 : Int32) (x3 : Int32) (x4 : Int32) (x5 : Int32) (I : Nat → Int32) (A : Nat → Nat → Int32) (H : Heap) (locs : List Loc) (ls : Array Slot), f_isSpelled_6 n x2 x3 x4 x5 I A = some o → mH D cy ci h A0 s H locs I A → lv_has ls 7 [(0, .ref (h 0)), (2, .int x2), (3, .int x3), (4, .int x4), (5, .int x5)] → W p l e ({ frames := 0, cells := 0, slots := 0, locals := 0 } : Room) s m args below meth c H locs 0 0 Q (F0 m 6 ls []) := by
  induction n with
  | zero => intro x2 x3 x4 x5 I A H locs ls hf; cases hf
  | succ n ih => intro x2 x3 x4 x5 I A H locs ls hf hM hl; exact ws_isSpelled_6 X hret (self6 := f_isSpelled_6 n) ih hf hM hl
noncomputable def f_isSpelled_0 (x1 : Int32) (x2 : Int32) (x3 : Int32) (I : Nat → Int32) (A : Nat → Nat → Int32) : Option (Int32 × MS) :=
  f_isSpelled_6 mFuel x2 x3 (0 : Int32) x1 I A

set_option maxRecDepth 100000 in
set_option maxHeartbeats 4000000 in
theorem w_isSpelled_0 {p : Program} {l : Launch} {e : Env} {s : State} {m : MethodId} {args : Array Value} {below : List Frame} {meth : Method} {c : Code} {Q : State → Prop} {D : va_G} {cy ci : ClassId} {h : Nat → Nat} {A0 : Nat → Prop} {o : Int32 × MS} (X : CallFix p m c cX12_isSpelled 7 s args wsX12_isSpelled RX12) (hret : mRi p l e ({ frames := 0, cells := 0, slots := 0, locals := 0 } : Room) s m args below meth c Q cX12_isSpelled D cy ci h A0 .boolean o) {x1 : Int32} {x2 : Int32} {x3 : Int32} {I : Nat → Int32} {A : Nat → Nat → Int32} {H : Heap} {locs : List Loc} {ls : Array Slot} (hf : f_isSpelled_0 x1 x2 x3 I A = some o) (hM : mH D cy ci h A0 s H locs I A) (hl : lv_has ls 7 [(0, .ref (h 0)), (1, .int x1), (2, .int x2), (3, .int x3)]) : W p l e ({ frames := 0, cells := 0, slots := 0, locals := 0 } : Room) s m args below meth c H locs 0 0 Q (F0 m 0 ls []) := by
  obtain ⟨hx, hb, hml, hown, hts⟩ := id X
  unfold f_isSpelled_0 at hf
  refine lv_iconst (v := (0 : Int32)) hx hb dX12_isSpelled_0 (by decide) ?_
  refine lv_istore (lv' := [(4, .int (0 : Int32)), (0, .ref (h 0)), (1, .int x1), (2, .int x2), (3, .int x3)]) hx hb dX12_isSpelled_1 hl (by decide) rfl (fun ls hl => ?_)
  refine lv_iload_n hx hb dX12_isSpelled_3 rfl (lv_at hl 2 rfl) ?_
  refine lv_istore (lv' := [(5, .int x1), (4, .int (0 : Int32)), (0, .ref (h 0)), (1, .int x1), (2, .int x2), (3, .int x3)]) hx hb dX12_isSpelled_4 hl (by decide) rfl (fun ls hl => ?_)
  exact w_isSpelled_6 X hret _ _ _ _ _ _ _ _ _ _ hf hM (lv_sub hl [2, 4, 5, 1, 0] rfl)
noncomputable def f_isSpelled (x1 : Int32) (x2 : Int32) (x3 : Int32) (I : Nat → Int32) (A : Nat → Nat → Int32) : Option (Int32 × MS) := f_isSpelled_0 x1 x2 x3 I A
theorem c_isSpelled {l : Launch} {D : va_G} {cy ci : ClassId} {h : Nat → Nat} {x1 : Int32} {x2 : Int32} {x3 : Int32} {I : Nat → Int32} {A : Nat → Nat → Int32} {o : Int32 × MS} (hf : f_isSpelled x1 x2 x3 I A = some o) : mMi l yX12_isSpelled wsX12_isSpelled ({ frames := 0, cells := 0, slots := 0, locals := 0 } : Room) [.ref (h 0), .int x1, .int x2, .int x3] D cy ci h I A o :=
  m_entryI (cc := cX12_isSpelled) (maxL := 7) (by decide) rfl rfl (Nat.le_of_ble_eq_true rfl) (fun p e s m args below meth c A0 Q H locs ls X hret hM hl => w_isSpelled_0 X hret hf hM (lv_sub hl [0, 1, 2, 3] rfl))
theorem hw_fits : ∀ w ∈ wsX120, w ∈ wsX12_fits := by decide +kernel
theorem fl_fits_2 : Cond.fieldLink RX12 7 "MoveTextsModel" "text" "[C" ∈ wsX12_fits := by decide +kernel
theorem fl_fits_24 : Cond.fieldLink RX12 70 "MoveTextsModel" "men" "[I" ∈ wsX12_fits := by decide +kernel
theorem hd_fits : yX12_fits.cls = RX12 ∧ yX12_fits.cls ≠ "java/lang/invoke/MethodHandle" ∧ yX12_fits.cls ≠ "java/lang/invoke/VarHandle" ∧ (parseMethodDescriptor yX12_fits.desc).map (fun d => d.parameters.length) = some 4 := by decide +kernel
noncomputable def f_fits_198 (self37 : Int32 → Int32 → Int32 → Int32 → Int32 → Int32 → Int32 → (Nat → Int32) → (Nat → Nat → Int32) → Option (Int32 × MS)) (x1 : Int32) (x2 : Int32) (x3 : Int32) (x4 : Int32) (x6 : Int32) (x7 : Int32) (x8 : Int32) (I : Nat → Int32) (A : Nat → Nat → Int32) : Option (Int32 × MS) :=
  m_bnd (x8 + (1 : Int32)) (fun v1 =>
  self37 x1 x2 x3 x4 x6 x7 v1 I A)

set_option maxRecDepth 100000 in
set_option maxHeartbeats 4000000 in
theorem w_fits_198 {p : Program} {l : Launch} {e : Env} {s : State} {m : MethodId} {args : Array Value} {below : List Frame} {meth : Method} {c : Code} {Q : State → Prop} {D : va_G} {cy ci : ClassId} {h : Nat → Nat} {A0 : Nat → Prop} {o : Int32 × MS} (X : CallFix p m c cX12_fits 10 s args wsX12_fits RX12) (hret : mRi p l e ({ frames := 6, cells := 0, slots := 0, locals := 156 } : Room) s m args below meth c Q cX12_fits D cy ci h A0 .boolean o) {self37 : Int32 → Int32 → Int32 → Int32 → Int32 → Int32 → Int32 → (Nat → Int32) → (Nat → Nat → Int32) → Option (Int32 × MS)} (hself37 : ∀ (x1 : Int32) (x2 : Int32) (x3 : Int32) (x4 : Int32) (x6 : Int32) (x7 : Int32) (x8 : Int32) (I : Nat → Int32) (A : Nat → Nat → Int32) (H : Heap) (locs : List Loc) (ls : Array Slot), self37 x1 x2 x3 x4 x6 x7 x8 I A = some o → mH D cy ci h A0 s H locs I A → lv_has ls 10 [(0, .ref (h 0)), (1, .int x1), (2, .int x2), (3, .int x3), (4, .int x4), (6, .int x6), (7, .int x7), (8, .int x8)] → W p l e ({ frames := 6, cells := 0, slots := 0, locals := 156 } : Room) s m args below meth c H locs 0 0 Q (F0 m 37 ls [])) {x1 : Int32} {x2 : Int32} {x3 : Int32} {x4 : Int32} {x6 : Int32} {x7 : Int32} {x8 : Int32} {I : Nat → Int32} {A : Nat → Nat → Int32} {H : Heap} {locs : List Loc} {ls : Array Slot} (hf : f_fits_198 self37 x1 x2 x3 x4 x6 x7 x8 I A = some o) (hM : mH D cy ci h A0 s H locs I A) (hl : lv_has ls 10 [(0, .ref (h 0)), (1, .int x1), (2, .int x2), (3, .int x3), (4, .int x4), (6, .int x6), (7, .int x7), (8, .int x8)]) : W p l e ({ frames := 6, cells := 0, slots := 0, locals := 156 } : Room) s m args below meth c H locs 0 0 Q (F0 m 198 ls []) := by
  obtain ⟨hx, hb, hml, hown, hts⟩ := id X
  unfold f_fits_198 at hf
  obtain ⟨v1, ev, hf⟩ := m_bndE hf
  refine lv_iinc (v := v1) (lv' := [(8, .int v1), (0, .ref (h 0)), (1, .int x1), (2, .int x2), (3, .int x3), (4, .int x4), (6, .int x6), (7, .int x7)]) hx hb dX12_fits_198 hl (k := 7) rfl (by rw [ev]; rfl) (by decide) rfl (fun ls hl => ?_)
  clear ev
  refine lv_goto (tgt := 37) hx hb dX12_fits_201 (by decide) ?_
  exact hself37 _ _ _ _ _ _ _ _ _ _ _ _ hf hM (lv_sub hl [1, 2, 3, 4, 5, 6, 7, 0] rfl)
noncomputable def f_fits_168 (self37 : Int32 → Int32 → Int32 → Int32 → Int32 → Int32 → Int32 → (Nat → Int32) → (Nat → Nat → Int32) → Option (Int32 × MS)) (x1 : Int32) (x2 : Int32) (x3 : Int32) (x4 : Int32) (x6 : Int32) (x7 : Int32) (x8 : Int32) (I : Nat → Int32) (A : Nat → Nat → Int32) : Option (Int32 × MS) :=
  m_bnd (x3 - (1 : Int32)) (fun v1 =>
  m_cl (f_isSpelled x2 v1 (0 : Int32) I A) (fun r2 Ic2 Ac2 =>
  m_if (r2 = 0) (
  f_fits_198 self37 x1 x2 x3 x4 x6 x7 x8 Ic2 Ac2
  ) (
  m_cl (f_behind x1 Ic2 Ac2) (fun r3 Ic3 Ac3 =>
  m_bnd (x3 - (1 : Int32)) (fun v4 =>
  m_chk (¬ (v4 < 0 ∨ 2000 ≤ (v4).toNatClampNeg)) (
  m_bnd (Ac3 2 (v4).toNatClampNeg) (fun v5 =>
  m_if (r3 = v5) (
  m_chk (vp_nar .boolean (1 : Int32) = (1 : Int32)) (some ((1 : Int32), (Ic3, Ac3)))
  ) (
  f_fits_198 self37 x1 x2 x3 x4 x6 x7 x8 Ic3 Ac3
  )))))
  )))

set_option maxRecDepth 100000 in
set_option maxHeartbeats 4000000 in
theorem w_fits_168 {p : Program} {l : Launch} {e : Env} {s : State} {m : MethodId} {args : Array Value} {below : List Frame} {meth : Method} {c : Code} {Q : State → Prop} {D : va_G} {cy ci : ClassId} {h : Nat → Nat} {A0 : Nat → Prop} {o : Int32 × MS} (X : CallFix p m c cX12_fits 10 s args wsX12_fits RX12) (hret : mRi p l e ({ frames := 6, cells := 0, slots := 0, locals := 156 } : Room) s m args below meth c Q cX12_fits D cy ci h A0 .boolean o) {self37 : Int32 → Int32 → Int32 → Int32 → Int32 → Int32 → Int32 → (Nat → Int32) → (Nat → Nat → Int32) → Option (Int32 × MS)} (hself37 : ∀ (x1 : Int32) (x2 : Int32) (x3 : Int32) (x4 : Int32) (x6 : Int32) (x7 : Int32) (x8 : Int32) (I : Nat → Int32) (A : Nat → Nat → Int32) (H : Heap) (locs : List Loc) (ls : Array Slot), self37 x1 x2 x3 x4 x6 x7 x8 I A = some o → mH D cy ci h A0 s H locs I A → lv_has ls 10 [(0, .ref (h 0)), (1, .int x1), (2, .int x2), (3, .int x3), (4, .int x4), (6, .int x6), (7, .int x7), (8, .int x8)] → W p l e ({ frames := 6, cells := 0, slots := 0, locals := 156 } : Room) s m args below meth c H locs 0 0 Q (F0 m 37 ls [])) {x1 : Int32} {x2 : Int32} {x3 : Int32} {x4 : Int32} {x6 : Int32} {x7 : Int32} {x8 : Int32} {I : Nat → Int32} {A : Nat → Nat → Int32} {H : Heap} {locs : List Loc} {ls : Array Slot} (hf : f_fits_168 self37 x1 x2 x3 x4 x6 x7 x8 I A = some o) (hM : mH D cy ci h A0 s H locs I A) (hl : lv_has ls 10 [(0, .ref (h 0)), (1, .int x1), (2, .int x2), (3, .int x3), (4, .int x4), (6, .int x6), (7, .int x7), (8, .int x8)]) : W p l e ({ frames := 6, cells := 0, slots := 0, locals := 156 } : Room) s m args below meth c H locs 0 0 Q (F0 m 168 ls []) := by
  obtain ⟨hx, hb, hml, hown, hts⟩ := id X
  unfold f_fits_168 at hf
  refine lv_aload_n hx hb dX12_fits_168 rfl (lv_at hl 0 rfl) ?_
  refine lv_iload_n hx hb dX12_fits_169 rfl (lv_at hl 2 rfl) ?_
  refine lv_iload_n hx hb dX12_fits_170 rfl (lv_at hl 3 rfl) ?_
  refine lv_iconst (v := (1 : Int32)) hx hb dX12_fits_171 (by decide) ?_
  refine lv_isub hx hb dX12_fits_172 ?_
  obtain ⟨v1, ev, hf⟩ := m_bndE hf
  refine m_top ev ?_
  clear ev
  refine lv_iconst (v := (0 : Int32)) hx hb dX12_fits_173 (by decide) ?_
  obtain ⟨o2, ho, hf⟩ := m_clE hf
  refine m_callVi X hM (c_isSpelled ho) gX12_fits_X12_isSpelled rfl ⟨rfl, rfl⟩ hd_isSpelled ⟨Nat.le_of_ble_eq_true rfl, Nat.le_of_ble_eq_true rfl⟩ rfl hl.1 rfl (Nat.le_of_ble_eq_true rfl) dX12_fits_174 (fun H locs hM => ?_)
  clear ho
  refine lv_if_eq (tgt := 198) hx hb dX12_fits_177 (by decide) (fun cc1 => ?_) (fun cc1 => ?_)
  · replace hf := m_ifT hf cc1
    exact w_fits_198 X hret hself37 hf hM (lv_sub hl [0, 1, 2, 3, 4, 5, 6, 7] rfl)
  · replace hf := m_ifF hf cc1
    refine lv_aload_n hx hb dX12_fits_180 rfl (lv_at hl 0 rfl) ?_
    refine lv_iload_n hx hb dX12_fits_181 rfl (lv_at hl 1 rfl) ?_
    obtain ⟨o3, ho, hf⟩ := m_clE hf
    refine m_callVi X hM (c_behind ho) gX12_fits_X12_behind rfl ⟨rfl, rfl⟩ hd_behind ⟨Nat.le_of_ble_eq_true rfl, Nat.le_of_ble_eq_true rfl⟩ rfl hl.1 rfl (Nat.le_of_ble_eq_true rfl) dX12_fits_182 (fun H locs hM => ?_)
    clear ho
    refine lv_aload_n hx hb dX12_fits_185 rfl (lv_at hl 0 rfl) ?_
    refine m_get (v := .ref (h 2)) X hw_fits hM 2 (by decide) fl_fits_2 rfl dX12_fits_186 ?_
    refine lv_iload_n hx hb dX12_fits_189 rfl (lv_at hl 3 rfl) ?_
    refine lv_iconst (v := (1 : Int32)) hx hb dX12_fits_190 (by decide) ?_
    refine lv_isub hx hb dX12_fits_191 ?_
    obtain ⟨v4, ev, hf⟩ := m_bndE hf
    refine m_top ev ?_
    clear ev
    obtain ⟨cd, hf⟩ := m_chkE hf
    refine m_cald X hM 2 1 2000 rfl cd dX12_fits_192 ?_
    clear cd
    obtain ⟨v5, ev, hf⟩ := m_bndE hf
    refine m_top ev ?_
    clear ev
    refine lv_icmp_ne (tgt := 198) hx hb dX12_fits_193 (by decide) (fun cc1 => ?_) (fun cc1 => ?_)
    · replace hf := m_ifF hf cc1
      exact w_fits_198 X hret hself37 hf hM (lv_sub hl [0, 1, 2, 3, 4, 5, 6, 7] rfl)
    · replace hf := m_ifT hf cc1
      refine lv_iconst (v := (1 : Int32)) hx hb dX12_fits_196 (by decide) ?_
      obtain ⟨cd, hf⟩ := m_chkE hf
      cases hf
      exact hret H locs _ ls hM (m_nb cd) dX12_fits_197
noncomputable def f_fits_116 (self37 : Int32 → Int32 → Int32 → Int32 → Int32 → Int32 → Int32 → (Nat → Int32) → (Nat → Nat → Int32) → Option (Int32 × MS)) (x1 : Int32) (x2 : Int32) (x3 : Int32) (x4 : Int32) (x6 : Int32) (x7 : Int32) (x8 : Int32) (t0 : Int32) (t1 : Int32) (t2 : Int32) (I : Nat → Int32) (A : Nat → Nat → Int32) : Option (Int32 × MS) :=
  m_cl (f_spellMove t2 t1 t0 I A) (fun r1 Ic1 Ac1 =>
  m_cl (f_isSpelled x2 x3 x4 Ic1 Ac1) (fun r2 Ic2 Ac2 =>
  m_if (r2 = 0) (
  m_if (x4 = 0) (
  m_if (x3 ≤ x2) (
  f_fits_198 self37 x1 x2 x3 x4 x6 x7 x8 Ic2 Ac2
  ) (
  m_bnd (x3 - (1 : Int32)) (fun v3 =>
  m_chk (¬ (v3 < 0 ∨ 2000 ≤ (v3).toNatClampNeg)) (
  m_bnd (Ac2 2 (v3).toNatClampNeg) (fun v4 =>
  m_if (v4 = (43 : Int32)) (
  f_fits_168 self37 x1 x2 x3 x4 x6 x7 x8 Ic2 Ac2
  ) (
  m_bnd (x3 - (1 : Int32)) (fun v5 =>
  m_chk (¬ (v5 < 0 ∨ 2000 ≤ (v5).toNatClampNeg)) (
  m_bnd (Ac2 2 (v5).toNatClampNeg) (fun v6 =>
  m_if (v6 = (35 : Int32)) (
  f_fits_168 self37 x1 x2 x3 x4 x6 x7 x8 Ic2 Ac2
  ) (
  f_fits_198 self37 x1 x2 x3 x4 x6 x7 x8 Ic2 Ac2
  ))))
  ))))
  )
  ) (
  f_fits_198 self37 x1 x2 x3 x4 x6 x7 x8 Ic2 Ac2
  )
  ) (
  m_chk (vp_nar .boolean (1 : Int32) = (1 : Int32)) (some ((1 : Int32), (Ic2, Ac2)))
  )))

set_option maxRecDepth 100000 in
set_option maxHeartbeats 4000000 in
theorem w_fits_116 {p : Program} {l : Launch} {e : Env} {s : State} {m : MethodId} {args : Array Value} {below : List Frame} {meth : Method} {c : Code} {Q : State → Prop} {D : va_G} {cy ci : ClassId} {h : Nat → Nat} {A0 : Nat → Prop} {o : Int32 × MS} (X : CallFix p m c cX12_fits 10 s args wsX12_fits RX12) (hret : mRi p l e ({ frames := 6, cells := 0, slots := 0, locals := 156 } : Room) s m args below meth c Q cX12_fits D cy ci h A0 .boolean o) {self37 : Int32 → Int32 → Int32 → Int32 → Int32 → Int32 → Int32 → (Nat → Int32) → (Nat → Nat → Int32) → Option (Int32 × MS)} (hself37 : ∀ (x1 : Int32) (x2 : Int32) (x3 : Int32) (x4 : Int32) (x6 : Int32) (x7 : Int32) (x8 : Int32) (I : Nat → Int32) (A : Nat → Nat → Int32) (H : Heap) (locs : List Loc) (ls : Array Slot), self37 x1 x2 x3 x4 x6 x7 x8 I A = some o → mH D cy ci h A0 s H locs I A → lv_has ls 10 [(0, .ref (h 0)), (1, .int x1), (2, .int x2), (3, .int x3), (4, .int x4), (6, .int x6), (7, .int x7), (8, .int x8)] → W p l e ({ frames := 6, cells := 0, slots := 0, locals := 156 } : Room) s m args below meth c H locs 0 0 Q (F0 m 37 ls [])) {x1 : Int32} {x2 : Int32} {x3 : Int32} {x4 : Int32} {x6 : Int32} {x7 : Int32} {x8 : Int32} {t0 : Int32} {t1 : Int32} {t2 : Int32} {I : Nat → Int32} {A : Nat → Nat → Int32} {H : Heap} {locs : List Loc} {ls : Array Slot} (hf : f_fits_116 self37 x1 x2 x3 x4 x6 x7 x8 t0 t1 t2 I A = some o) (hM : mH D cy ci h A0 s H locs I A) (hl : lv_has ls 10 [(0, .ref (h 0)), (1, .int x1), (2, .int x2), (3, .int x3), (4, .int x4), (6, .int x6), (7, .int x7), (8, .int x8)]) : W p l e ({ frames := 6, cells := 0, slots := 0, locals := 156 } : Room) s m args below meth c H locs 0 0 Q (F0 m 116 ls [.int t0, .int t1, .int t2, .ref (h 0)]) := by
  obtain ⟨hx, hb, hml, hown, hts⟩ := id X
  unfold f_fits_116 at hf
  obtain ⟨o1, ho, hf⟩ := m_clE hf
  refine m_callVv X hM (c_spellMove ho) gX12_fits_X12_spellMove rfl ⟨rfl, rfl⟩ hd_spellMove ⟨Nat.le_of_ble_eq_true rfl, Nat.le_of_ble_eq_true rfl⟩ rfl hl.1 rfl (Nat.le_of_ble_eq_true rfl) dX12_fits_116 (fun H locs hM => ?_)
  clear ho
  refine lv_aload_n hx hb dX12_fits_119 rfl (lv_at hl 0 rfl) ?_
  refine lv_iload_n hx hb dX12_fits_120 rfl (lv_at hl 2 rfl) ?_
  refine lv_iload_n hx hb dX12_fits_121 rfl (lv_at hl 3 rfl) ?_
  refine lv_iload hx hb dX12_fits_122 (lv_at hl 4 rfl) ?_
  obtain ⟨o2, ho, hf⟩ := m_clE hf
  refine m_callVi X hM (c_isSpelled ho) gX12_fits_X12_isSpelled rfl ⟨rfl, rfl⟩ hd_isSpelled ⟨Nat.le_of_ble_eq_true rfl, Nat.le_of_ble_eq_true rfl⟩ rfl hl.1 rfl (Nat.le_of_ble_eq_true rfl) dX12_fits_124 (fun H locs hM => ?_)
  clear ho
  refine lv_if_eq (tgt := 132) hx hb dX12_fits_127 (by decide) (fun cc1 => ?_) (fun cc1 => ?_)
  · replace hf := m_ifT hf cc1
    refine lv_iload hx hb dX12_fits_132 (lv_at hl 4 rfl) ?_
    refine lv_if_ne (tgt := 198) hx hb dX12_fits_134 (by decide) (fun cc1 => ?_) (fun cc1 => ?_)
    · replace hf := m_ifF hf cc1
      exact w_fits_198 X hret hself37 hf hM (lv_sub hl [0, 1, 2, 3, 4, 5, 6, 7] rfl)
    · replace hf := m_ifT hf cc1
      refine lv_iload_n hx hb dX12_fits_137 rfl (lv_at hl 2 rfl) ?_
      refine lv_iload_n hx hb dX12_fits_138 rfl (lv_at hl 3 rfl) ?_
      refine lv_icmp_ge (tgt := 198) hx hb dX12_fits_139 (by decide) (fun cc1 => ?_) (fun cc1 => ?_)
      · replace hf := m_ifT hf cc1
        exact w_fits_198 X hret hself37 hf hM (lv_sub hl [0, 1, 2, 3, 4, 5, 6, 7] rfl)
      · replace hf := m_ifF hf cc1
        refine lv_aload_n hx hb dX12_fits_142 rfl (lv_at hl 0 rfl) ?_
        refine m_get (v := .ref (h 2)) X hw_fits hM 2 (by decide) fl_fits_2 rfl dX12_fits_143 ?_
        refine lv_iload_n hx hb dX12_fits_146 rfl (lv_at hl 3 rfl) ?_
        refine lv_iconst (v := (1 : Int32)) hx hb dX12_fits_147 (by decide) ?_
        refine lv_isub hx hb dX12_fits_148 ?_
        obtain ⟨v3, ev, hf⟩ := m_bndE hf
        refine m_top ev ?_
        clear ev
        obtain ⟨cd, hf⟩ := m_chkE hf
        refine m_cald X hM 2 1 2000 rfl cd dX12_fits_149 ?_
        clear cd
        obtain ⟨v4, ev, hf⟩ := m_bndE hf
        refine m_top ev ?_
        clear ev
        refine lv_bipush (v := (43 : Int32)) hx hb dX12_fits_150 (by decide) ?_
        refine lv_icmp_eq (tgt := 168) hx hb dX12_fits_152 (by decide) (fun cc1 => ?_) (fun cc1 => ?_)
        · replace hf := m_ifT hf cc1
          exact w_fits_168 X hret hself37 hf hM (lv_sub hl [0, 1, 2, 3, 4, 5, 6, 7] rfl)
        · replace hf := m_ifF hf cc1
          refine lv_aload_n hx hb dX12_fits_155 rfl (lv_at hl 0 rfl) ?_
          refine m_get (v := .ref (h 2)) X hw_fits hM 2 (by decide) fl_fits_2 rfl dX12_fits_156 ?_
          refine lv_iload_n hx hb dX12_fits_159 rfl (lv_at hl 3 rfl) ?_
          refine lv_iconst (v := (1 : Int32)) hx hb dX12_fits_160 (by decide) ?_
          refine lv_isub hx hb dX12_fits_161 ?_
          obtain ⟨v5, ev, hf⟩ := m_bndE hf
          refine m_top ev ?_
          clear ev
          obtain ⟨cd, hf⟩ := m_chkE hf
          refine m_cald X hM 2 1 2000 rfl cd dX12_fits_162 ?_
          clear cd
          obtain ⟨v6, ev, hf⟩ := m_bndE hf
          refine m_top ev ?_
          clear ev
          refine lv_bipush (v := (35 : Int32)) hx hb dX12_fits_163 (by decide) ?_
          refine lv_icmp_ne (tgt := 198) hx hb dX12_fits_165 (by decide) (fun cc1 => ?_) (fun cc1 => ?_)
          · replace hf := m_ifF hf cc1
            exact w_fits_198 X hret hself37 hf hM (lv_sub hl [0, 1, 2, 3, 4, 5, 6, 7] rfl)
          · replace hf := m_ifT hf cc1
            exact w_fits_168 X hret hself37 hf hM (lv_sub hl [0, 1, 2, 3, 4, 5, 6, 7] rfl)
  · replace hf := m_ifF hf cc1
    refine lv_iconst (v := (1 : Int32)) hx hb dX12_fits_130 (by decide) ?_
    obtain ⟨cd, hf⟩ := m_chkE hf
    cases hf
    exact hret H locs _ ls hM (m_nb cd) dX12_fits_131
noncomputable def f_fits_115 (self37 : Int32 → Int32 → Int32 → Int32 → Int32 → Int32 → Int32 → (Nat → Int32) → (Nat → Nat → Int32) → Option (Int32 × MS)) (x1 : Int32) (x2 : Int32) (x3 : Int32) (x4 : Int32) (x6 : Int32) (x7 : Int32) (x8 : Int32) (t0 : Int32) (t1 : Int32) (I : Nat → Int32) (A : Nat → Nat → Int32) : Option (Int32 × MS) :=
  f_fits_116 self37 x1 x2 x3 x4 x6 x7 x8 (0 : Int32) t0 t1 I A

set_option maxRecDepth 100000 in
set_option maxHeartbeats 4000000 in
theorem w_fits_115 {p : Program} {l : Launch} {e : Env} {s : State} {m : MethodId} {args : Array Value} {below : List Frame} {meth : Method} {c : Code} {Q : State → Prop} {D : va_G} {cy ci : ClassId} {h : Nat → Nat} {A0 : Nat → Prop} {o : Int32 × MS} (X : CallFix p m c cX12_fits 10 s args wsX12_fits RX12) (hret : mRi p l e ({ frames := 6, cells := 0, slots := 0, locals := 156 } : Room) s m args below meth c Q cX12_fits D cy ci h A0 .boolean o) {self37 : Int32 → Int32 → Int32 → Int32 → Int32 → Int32 → Int32 → (Nat → Int32) → (Nat → Nat → Int32) → Option (Int32 × MS)} (hself37 : ∀ (x1 : Int32) (x2 : Int32) (x3 : Int32) (x4 : Int32) (x6 : Int32) (x7 : Int32) (x8 : Int32) (I : Nat → Int32) (A : Nat → Nat → Int32) (H : Heap) (locs : List Loc) (ls : Array Slot), self37 x1 x2 x3 x4 x6 x7 x8 I A = some o → mH D cy ci h A0 s H locs I A → lv_has ls 10 [(0, .ref (h 0)), (1, .int x1), (2, .int x2), (3, .int x3), (4, .int x4), (6, .int x6), (7, .int x7), (8, .int x8)] → W p l e ({ frames := 6, cells := 0, slots := 0, locals := 156 } : Room) s m args below meth c H locs 0 0 Q (F0 m 37 ls [])) {x1 : Int32} {x2 : Int32} {x3 : Int32} {x4 : Int32} {x6 : Int32} {x7 : Int32} {x8 : Int32} {t0 : Int32} {t1 : Int32} {I : Nat → Int32} {A : Nat → Nat → Int32} {H : Heap} {locs : List Loc} {ls : Array Slot} (hf : f_fits_115 self37 x1 x2 x3 x4 x6 x7 x8 t0 t1 I A = some o) (hM : mH D cy ci h A0 s H locs I A) (hl : lv_has ls 10 [(0, .ref (h 0)), (1, .int x1), (2, .int x2), (3, .int x3), (4, .int x4), (6, .int x6), (7, .int x7), (8, .int x8)]) : W p l e ({ frames := 6, cells := 0, slots := 0, locals := 156 } : Room) s m args below meth c H locs 0 0 Q (F0 m 115 ls [.int t0, .int t1, .ref (h 0)]) := by
  obtain ⟨hx, hb, hml, hown, hts⟩ := id X
  unfold f_fits_115 at hf
  refine lv_iconst (v := (0 : Int32)) hx hb dX12_fits_115 (by decide) ?_
  exact w_fits_116 X hret hself37 hf hM (lv_sub hl [0, 1, 2, 3, 4, 5, 6, 7] rfl)
noncomputable def f_fits_90 (self37 : Int32 → Int32 → Int32 → Int32 → Int32 → Int32 → Int32 → (Nat → Int32) → (Nat → Nat → Int32) → Option (Int32 × MS)) (x1 : Int32) (x2 : Int32) (x3 : Int32) (x4 : Int32) (x6 : Int32) (x7 : Int32) (x8 : Int32) (t0 : Int32) (I : Nat → Int32) (A : Nat → Nat → Int32) : Option (Int32 × MS) :=
  m_if (t0 = 0) (
  f_fits_198 self37 x1 x2 x3 x4 x6 x7 x8 I A
  ) (
  m_if (x7 = 0) (
  f_fits_115 self37 x1 x2 x3 x4 x6 x7 x8 x8 x1 I A
  ) (
  m_if (x4 = 0) (
  f_fits_116 self37 x1 x2 x3 x4 x6 x7 x8 (1 : Int32) x8 x1 I A
  ) (
  f_fits_115 self37 x1 x2 x3 x4 x6 x7 x8 x8 x1 I A
  )
  )
  )

set_option maxRecDepth 100000 in
set_option maxHeartbeats 4000000 in
theorem w_fits_90 {p : Program} {l : Launch} {e : Env} {s : State} {m : MethodId} {args : Array Value} {below : List Frame} {meth : Method} {c : Code} {Q : State → Prop} {D : va_G} {cy ci : ClassId} {h : Nat → Nat} {A0 : Nat → Prop} {o : Int32 × MS} (X : CallFix p m c cX12_fits 10 s args wsX12_fits RX12) (hret : mRi p l e ({ frames := 6, cells := 0, slots := 0, locals := 156 } : Room) s m args below meth c Q cX12_fits D cy ci h A0 .boolean o) {self37 : Int32 → Int32 → Int32 → Int32 → Int32 → Int32 → Int32 → (Nat → Int32) → (Nat → Nat → Int32) → Option (Int32 × MS)} (hself37 : ∀ (x1 : Int32) (x2 : Int32) (x3 : Int32) (x4 : Int32) (x6 : Int32) (x7 : Int32) (x8 : Int32) (I : Nat → Int32) (A : Nat → Nat → Int32) (H : Heap) (locs : List Loc) (ls : Array Slot), self37 x1 x2 x3 x4 x6 x7 x8 I A = some o → mH D cy ci h A0 s H locs I A → lv_has ls 10 [(0, .ref (h 0)), (1, .int x1), (2, .int x2), (3, .int x3), (4, .int x4), (6, .int x6), (7, .int x7), (8, .int x8)] → W p l e ({ frames := 6, cells := 0, slots := 0, locals := 156 } : Room) s m args below meth c H locs 0 0 Q (F0 m 37 ls [])) {x1 : Int32} {x2 : Int32} {x3 : Int32} {x4 : Int32} {x6 : Int32} {x7 : Int32} {x8 : Int32} {t0 : Int32} {I : Nat → Int32} {A : Nat → Nat → Int32} {H : Heap} {locs : List Loc} {ls : Array Slot} (hf : f_fits_90 self37 x1 x2 x3 x4 x6 x7 x8 t0 I A = some o) (hM : mH D cy ci h A0 s H locs I A) (hl : lv_has ls 10 [(0, .ref (h 0)), (1, .int x1), (2, .int x2), (3, .int x3), (4, .int x4), (6, .int x6), (7, .int x7), (8, .int x8)]) : W p l e ({ frames := 6, cells := 0, slots := 0, locals := 156 } : Room) s m args below meth c H locs 0 0 Q (F0 m 90 ls [.int t0]) := by
  obtain ⟨hx, hb, hml, hown, hts⟩ := id X
  unfold f_fits_90 at hf
  refine lv_istore (lv' := [(9, .int t0), (0, .ref (h 0)), (1, .int x1), (2, .int x2), (3, .int x3), (4, .int x4), (6, .int x6), (7, .int x7), (8, .int x8)]) hx hb dX12_fits_90 hl (by decide) rfl (fun ls hl => ?_)
  refine lv_iload hx hb dX12_fits_92 (lv_at hl 0 rfl) ?_
  refine lv_if_eq (tgt := 198) hx hb dX12_fits_94 (by decide) (fun cc1 => ?_) (fun cc1 => ?_)
  · replace hf := m_ifT hf cc1
    exact w_fits_198 X hret hself37 hf hM (lv_sub hl [1, 2, 3, 4, 5, 6, 7, 8] rfl)
  · replace hf := m_ifF hf cc1
    refine lv_aload_n hx hb dX12_fits_97 rfl (lv_at hl 1 rfl) ?_
    refine lv_iload_n hx hb dX12_fits_98 rfl (lv_at hl 2 rfl) ?_
    refine lv_iload hx hb dX12_fits_99 (lv_at hl 8 rfl) ?_
    refine lv_iload hx hb dX12_fits_101 (lv_at hl 7 rfl) ?_
    refine lv_if_eq (tgt := 115) hx hb dX12_fits_103 (by decide) (fun cc1 => ?_) (fun cc1 => ?_)
    · replace hf := m_ifT hf cc1
      exact w_fits_115 X hret hself37 hf hM (lv_sub hl [1, 2, 3, 4, 5, 6, 7, 8] rfl)
    · replace hf := m_ifF hf cc1
      refine lv_iload hx hb dX12_fits_106 (lv_at hl 5 rfl) ?_
      refine lv_if_ne (tgt := 115) hx hb dX12_fits_108 (by decide) (fun cc1 => ?_) (fun cc1 => ?_)
      · replace hf := m_ifF hf cc1
        exact w_fits_115 X hret hself37 hf hM (lv_sub hl [1, 2, 3, 4, 5, 6, 7, 8] rfl)
      · replace hf := m_ifT hf cc1
        refine lv_iconst (v := (1 : Int32)) hx hb dX12_fits_111 (by decide) ?_
        refine lv_goto (tgt := 116) hx hb dX12_fits_112 (by decide) ?_
        exact w_fits_116 X hret hself37 hf hM (lv_sub hl [1, 2, 3, 4, 5, 6, 7, 8] rfl)
noncomputable def f_fits_85 (self37 : Int32 → Int32 → Int32 → Int32 → Int32 → Int32 → Int32 → (Nat → Int32) → (Nat → Nat → Int32) → Option (Int32 × MS)) (x1 : Int32) (x2 : Int32) (x3 : Int32) (x4 : Int32) (x6 : Int32) (x7 : Int32) (x8 : Int32) (I : Nat → Int32) (A : Nat → Nat → Int32) : Option (Int32 × MS) :=
  f_fits_90 self37 x1 x2 x3 x4 x6 x7 x8 (1 : Int32) I A

set_option maxRecDepth 100000 in
set_option maxHeartbeats 4000000 in
theorem w_fits_85 {p : Program} {l : Launch} {e : Env} {s : State} {m : MethodId} {args : Array Value} {below : List Frame} {meth : Method} {c : Code} {Q : State → Prop} {D : va_G} {cy ci : ClassId} {h : Nat → Nat} {A0 : Nat → Prop} {o : Int32 × MS} (X : CallFix p m c cX12_fits 10 s args wsX12_fits RX12) (hret : mRi p l e ({ frames := 6, cells := 0, slots := 0, locals := 156 } : Room) s m args below meth c Q cX12_fits D cy ci h A0 .boolean o) {self37 : Int32 → Int32 → Int32 → Int32 → Int32 → Int32 → Int32 → (Nat → Int32) → (Nat → Nat → Int32) → Option (Int32 × MS)} (hself37 : ∀ (x1 : Int32) (x2 : Int32) (x3 : Int32) (x4 : Int32) (x6 : Int32) (x7 : Int32) (x8 : Int32) (I : Nat → Int32) (A : Nat → Nat → Int32) (H : Heap) (locs : List Loc) (ls : Array Slot), self37 x1 x2 x3 x4 x6 x7 x8 I A = some o → mH D cy ci h A0 s H locs I A → lv_has ls 10 [(0, .ref (h 0)), (1, .int x1), (2, .int x2), (3, .int x3), (4, .int x4), (6, .int x6), (7, .int x7), (8, .int x8)] → W p l e ({ frames := 6, cells := 0, slots := 0, locals := 156 } : Room) s m args below meth c H locs 0 0 Q (F0 m 37 ls [])) {x1 : Int32} {x2 : Int32} {x3 : Int32} {x4 : Int32} {x6 : Int32} {x7 : Int32} {x8 : Int32} {I : Nat → Int32} {A : Nat → Nat → Int32} {H : Heap} {locs : List Loc} {ls : Array Slot} (hf : f_fits_85 self37 x1 x2 x3 x4 x6 x7 x8 I A = some o) (hM : mH D cy ci h A0 s H locs I A) (hl : lv_has ls 10 [(0, .ref (h 0)), (1, .int x1), (2, .int x2), (3, .int x3), (4, .int x4), (6, .int x6), (7, .int x7), (8, .int x8)]) : W p l e ({ frames := 6, cells := 0, slots := 0, locals := 156 } : Room) s m args below meth c H locs 0 0 Q (F0 m 85 ls []) := by
  obtain ⟨hx, hb, hml, hown, hts⟩ := id X
  unfold f_fits_85 at hf
  refine lv_iconst (v := (1 : Int32)) hx hb dX12_fits_85 (by decide) ?_
  refine lv_goto (tgt := 90) hx hb dX12_fits_86 (by decide) ?_
  exact w_fits_90 X hret hself37 hf hM (lv_sub hl [0, 1, 2, 3, 4, 5, 6, 7] rfl)
noncomputable def f_fits_89 (self37 : Int32 → Int32 → Int32 → Int32 → Int32 → Int32 → Int32 → (Nat → Int32) → (Nat → Nat → Int32) → Option (Int32 × MS)) (x1 : Int32) (x2 : Int32) (x3 : Int32) (x4 : Int32) (x6 : Int32) (x7 : Int32) (x8 : Int32) (I : Nat → Int32) (A : Nat → Nat → Int32) : Option (Int32 × MS) :=
  f_fits_90 self37 x1 x2 x3 x4 x6 x7 x8 (0 : Int32) I A

set_option maxRecDepth 100000 in
set_option maxHeartbeats 4000000 in
theorem w_fits_89 {p : Program} {l : Launch} {e : Env} {s : State} {m : MethodId} {args : Array Value} {below : List Frame} {meth : Method} {c : Code} {Q : State → Prop} {D : va_G} {cy ci : ClassId} {h : Nat → Nat} {A0 : Nat → Prop} {o : Int32 × MS} (X : CallFix p m c cX12_fits 10 s args wsX12_fits RX12) (hret : mRi p l e ({ frames := 6, cells := 0, slots := 0, locals := 156 } : Room) s m args below meth c Q cX12_fits D cy ci h A0 .boolean o) {self37 : Int32 → Int32 → Int32 → Int32 → Int32 → Int32 → Int32 → (Nat → Int32) → (Nat → Nat → Int32) → Option (Int32 × MS)} (hself37 : ∀ (x1 : Int32) (x2 : Int32) (x3 : Int32) (x4 : Int32) (x6 : Int32) (x7 : Int32) (x8 : Int32) (I : Nat → Int32) (A : Nat → Nat → Int32) (H : Heap) (locs : List Loc) (ls : Array Slot), self37 x1 x2 x3 x4 x6 x7 x8 I A = some o → mH D cy ci h A0 s H locs I A → lv_has ls 10 [(0, .ref (h 0)), (1, .int x1), (2, .int x2), (3, .int x3), (4, .int x4), (6, .int x6), (7, .int x7), (8, .int x8)] → W p l e ({ frames := 6, cells := 0, slots := 0, locals := 156 } : Room) s m args below meth c H locs 0 0 Q (F0 m 37 ls [])) {x1 : Int32} {x2 : Int32} {x3 : Int32} {x4 : Int32} {x6 : Int32} {x7 : Int32} {x8 : Int32} {I : Nat → Int32} {A : Nat → Nat → Int32} {H : Heap} {locs : List Loc} {ls : Array Slot} (hf : f_fits_89 self37 x1 x2 x3 x4 x6 x7 x8 I A = some o) (hM : mH D cy ci h A0 s H locs I A) (hl : lv_has ls 10 [(0, .ref (h 0)), (1, .int x1), (2, .int x2), (3, .int x3), (4, .int x4), (6, .int x6), (7, .int x7), (8, .int x8)]) : W p l e ({ frames := 6, cells := 0, slots := 0, locals := 156 } : Room) s m args below meth c H locs 0 0 Q (F0 m 89 ls []) := by
  obtain ⟨hx, hb, hml, hown, hts⟩ := id X
  unfold f_fits_89 at hf
  refine lv_iconst (v := (0 : Int32)) hx hb dX12_fits_89 (by decide) ?_
  exact w_fits_90 X hret hself37 hf hM (lv_sub hl [0, 1, 2, 3, 4, 5, 6, 7] rfl)
noncomputable def f_fits_37s (self37 : Int32 → Int32 → Int32 → Int32 → Int32 → Int32 → Int32 → (Nat → Int32) → (Nat → Nat → Int32) → Option (Int32 × MS)) (x1 : Int32) (x2 : Int32) (x3 : Int32) (x4 : Int32) (x6 : Int32) (x7 : Int32) (x8 : Int32) (I : Nat → Int32) (A : Nat → Nat → Int32) : Option (Int32 × MS) :=
  m_if ((4 : Int32) ≤ x8) (
  m_chk (vp_nar .boolean (0 : Int32) = (0 : Int32)) (some ((0 : Int32), (I, A)))
  ) (
  m_cl (f_isCastling x1 I A) (fun r1 Ic1 Ac1 =>
  m_if (r1 = 0) (
  m_if (x6 = 0) (
  f_fits_85 self37 x1 x2 x3 x4 x6 x7 x8 Ic1 Ac1
  ) (
  m_if (x8 = (1 : Int32)) (
  f_fits_85 self37 x1 x2 x3 x4 x6 x7 x8 Ic1 Ac1
  ) (
  m_if (x8 = 0) (
  m_if (x7 = 0) (
  f_fits_85 self37 x1 x2 x3 x4 x6 x7 x8 Ic1 Ac1
  ) (
  f_fits_89 self37 x1 x2 x3 x4 x6 x7 x8 Ic1 Ac1
  )
  ) (
  f_fits_89 self37 x1 x2 x3 x4 x6 x7 x8 Ic1 Ac1
  )
  )
  )
  ) (
  m_if (x8 = 0) (
  f_fits_90 self37 x1 x2 x3 x4 x6 x7 x8 (1 : Int32) Ic1 Ac1
  ) (
  f_fits_90 self37 x1 x2 x3 x4 x6 x7 x8 (0 : Int32) Ic1 Ac1
  )
  ))
  )

set_option maxRecDepth 100000 in
set_option maxHeartbeats 4000000 in
theorem ws_fits_37 {p : Program} {l : Launch} {e : Env} {s : State} {m : MethodId} {args : Array Value} {below : List Frame} {meth : Method} {c : Code} {Q : State → Prop} {D : va_G} {cy ci : ClassId} {h : Nat → Nat} {A0 : Nat → Prop} {o : Int32 × MS} (X : CallFix p m c cX12_fits 10 s args wsX12_fits RX12) (hret : mRi p l e ({ frames := 6, cells := 0, slots := 0, locals := 156 } : Room) s m args below meth c Q cX12_fits D cy ci h A0 .boolean o) {self37 : Int32 → Int32 → Int32 → Int32 → Int32 → Int32 → Int32 → (Nat → Int32) → (Nat → Nat → Int32) → Option (Int32 × MS)} (hself37 : ∀ (x1 : Int32) (x2 : Int32) (x3 : Int32) (x4 : Int32) (x6 : Int32) (x7 : Int32) (x8 : Int32) (I : Nat → Int32) (A : Nat → Nat → Int32) (H : Heap) (locs : List Loc) (ls : Array Slot), self37 x1 x2 x3 x4 x6 x7 x8 I A = some o → mH D cy ci h A0 s H locs I A → lv_has ls 10 [(0, .ref (h 0)), (1, .int x1), (2, .int x2), (3, .int x3), (4, .int x4), (6, .int x6), (7, .int x7), (8, .int x8)] → W p l e ({ frames := 6, cells := 0, slots := 0, locals := 156 } : Room) s m args below meth c H locs 0 0 Q (F0 m 37 ls [])) {x1 : Int32} {x2 : Int32} {x3 : Int32} {x4 : Int32} {x6 : Int32} {x7 : Int32} {x8 : Int32} {I : Nat → Int32} {A : Nat → Nat → Int32} {H : Heap} {locs : List Loc} {ls : Array Slot} (hf : f_fits_37s self37 x1 x2 x3 x4 x6 x7 x8 I A = some o) (hM : mH D cy ci h A0 s H locs I A) (hl : lv_has ls 10 [(0, .ref (h 0)), (1, .int x1), (2, .int x2), (3, .int x3), (4, .int x4), (6, .int x6), (7, .int x7), (8, .int x8)]) : W p l e ({ frames := 6, cells := 0, slots := 0, locals := 156 } : Room) s m args below meth c H locs 0 0 Q (F0 m 37 ls []) := by
  obtain ⟨hx, hb, hml, hown, hts⟩ := id X
  unfold f_fits_37s at hf
  refine lv_iload hx hb dX12_fits_37 (lv_at hl 7 rfl) ?_
  refine lv_iconst (v := (4 : Int32)) hx hb dX12_fits_39 (by decide) ?_
  refine lv_icmp_ge (tgt := 204) hx hb dX12_fits_40 (by decide) (fun cc1 => ?_) (fun cc1 => ?_)
  · replace hf := m_ifT hf cc1
    refine lv_iconst (v := (0 : Int32)) hx hb dX12_fits_204 (by decide) ?_
    obtain ⟨cd, hf⟩ := m_chkE hf
    cases hf
    exact hret H locs _ ls hM (m_nb cd) dX12_fits_205
  · replace hf := m_ifF hf cc1
    refine lv_aload_n hx hb dX12_fits_43 rfl (lv_at hl 0 rfl) ?_
    refine lv_iload_n hx hb dX12_fits_44 rfl (lv_at hl 1 rfl) ?_
    obtain ⟨o1, ho, hf⟩ := m_clE hf
    refine m_callVi X hM (c_isCastling ho) gX12_fits_X12_isCastling rfl ⟨rfl, rfl⟩ hd_isCastling ⟨Nat.le_of_ble_eq_true rfl, Nat.le_of_ble_eq_true rfl⟩ rfl hl.1 rfl (Nat.le_of_ble_eq_true rfl) dX12_fits_45 (fun H locs hM => ?_)
    clear ho
    refine lv_if_eq (tgt := 64) hx hb dX12_fits_48 (by decide) (fun cc1 => ?_) (fun cc1 => ?_)
    · replace hf := m_ifT hf cc1
      refine lv_iload hx hb dX12_fits_64 (lv_at hl 5 rfl) ?_
      refine lv_if_eq (tgt := 85) hx hb dX12_fits_66 (by decide) (fun cc1 => ?_) (fun cc1 => ?_)
      · replace hf := m_ifT hf cc1
        exact w_fits_85 X hret hself37 hf hM (lv_sub hl [0, 1, 2, 3, 4, 5, 6, 7] rfl)
      · replace hf := m_ifF hf cc1
        refine lv_iload hx hb dX12_fits_69 (lv_at hl 7 rfl) ?_
        refine lv_iconst (v := (1 : Int32)) hx hb dX12_fits_71 (by decide) ?_
        refine lv_icmp_eq (tgt := 85) hx hb dX12_fits_72 (by decide) (fun cc1 => ?_) (fun cc1 => ?_)
        · replace hf := m_ifT hf cc1
          exact w_fits_85 X hret hself37 hf hM (lv_sub hl [0, 1, 2, 3, 4, 5, 6, 7] rfl)
        · replace hf := m_ifF hf cc1
          refine lv_iload hx hb dX12_fits_75 (lv_at hl 7 rfl) ?_
          refine lv_if_ne (tgt := 89) hx hb dX12_fits_77 (by decide) (fun cc1 => ?_) (fun cc1 => ?_)
          · replace hf := m_ifF hf cc1
            exact w_fits_89 X hret hself37 hf hM (lv_sub hl [0, 1, 2, 3, 4, 5, 6, 7] rfl)
          · replace hf := m_ifT hf cc1
            refine lv_iload hx hb dX12_fits_80 (lv_at hl 6 rfl) ?_
            refine lv_if_ne (tgt := 89) hx hb dX12_fits_82 (by decide) (fun cc1 => ?_) (fun cc1 => ?_)
            · replace hf := m_ifF hf cc1
              exact w_fits_89 X hret hself37 hf hM (lv_sub hl [0, 1, 2, 3, 4, 5, 6, 7] rfl)
            · replace hf := m_ifT hf cc1
              exact w_fits_85 X hret hself37 hf hM (lv_sub hl [0, 1, 2, 3, 4, 5, 6, 7] rfl)
    · replace hf := m_ifF hf cc1
      refine lv_iload hx hb dX12_fits_51 (lv_at hl 7 rfl) ?_
      refine lv_if_ne (tgt := 60) hx hb dX12_fits_53 (by decide) (fun cc1 => ?_) (fun cc1 => ?_)
      · replace hf := m_ifF hf cc1
        refine lv_iconst (v := (0 : Int32)) hx hb dX12_fits_60 (by decide) ?_
        refine lv_goto (tgt := 90) hx hb dX12_fits_61 (by decide) ?_
        exact w_fits_90 X hret hself37 hf hM (lv_sub hl [0, 1, 2, 3, 4, 5, 6, 7] rfl)
      · replace hf := m_ifT hf cc1
        refine lv_iconst (v := (1 : Int32)) hx hb dX12_fits_56 (by decide) ?_
        refine lv_goto (tgt := 90) hx hb dX12_fits_57 (by decide) ?_
        exact w_fits_90 X hret hself37 hf hM (lv_sub hl [0, 1, 2, 3, 4, 5, 6, 7] rfl)
noncomputable def f_fits_37 : Nat → Int32 → Int32 → Int32 → Int32 → Int32 → Int32 → Int32 → (Nat → Int32) → (Nat → Nat → Int32) → Option (Int32 × MS)
  | 0 => fun _ _ _ _ _ _ _ _ _ => none
  | n + 1 => f_fits_37s (f_fits_37 n)
theorem w_fits_37 {p : Program} {l : Launch} {e : Env} {s : State} {m : MethodId} {args : Array Value} {below : List Frame} {meth : Method} {c : Code} {Q : State → Prop} {D : va_G} {cy ci : ClassId} {h : Nat → Nat} {A0 : Nat → Prop} {o : Int32 × MS} (X : CallFix p m c cX12_fits 10 s args wsX12_fits RX12) (hret : mRi p l e ({ frames := 6, cells := 0, slots := 0, locals := 156 } : Room) s m args below meth c Q cX12_fits D cy ci h A0 .boolean o) (n : Nat) : ∀ (x1 : Int32) (x2 : Int32) (x3 : Int32) (x4 : Int32) (x6 : Int32) (x7 : Int32) (x8 : Int32) (I : Nat → Int32) (A : Nat → Nat → Int32) (H : Heap) (locs : List Loc) (ls : Array Slot), f_fits_37 n x1 x2 x3 x4 x6 x7 x8 I A = some o → mH D cy ci h A0 s H locs I A → lv_has ls 10 [(0, .ref (h 0)), (1, .int x1), (2, .int x2), (3, .int x3), (4, .int x4), (6, .int x6), (7, .int x7), (8, .int x8)] → W p l e ({ frames := 6, cells := 0, slots := 0, locals := 156 } : Room) s m args below meth c H locs 0 0 Q (F0 m 37 ls []) := by
  induction n with
  | zero => intro x1 x2 x3 x4 x6 x7 x8 I A H locs ls hf; cases hf
  | succ n ih => intro x1 x2 x3 x4 x6 x7 x8 I A H locs ls hf hM hl; exact ws_fits_37 X hret (self37 := f_fits_37 n) ih hf hM hl
noncomputable def f_fits_25 (x1 : Int32) (x2 : Int32) (x3 : Int32) (x4 : Int32) (t0 : Int32) (I : Nat → Int32) (A : Nat → Nat → Int32) : Option (Int32 × MS) :=
  m_cl (f_isTaking x1 I A) (fun r1 Ic1 Ac1 =>
  f_fits_37 mFuel x1 x2 x3 x4 t0 r1 (0 : Int32) Ic1 Ac1)

set_option maxRecDepth 100000 in
set_option maxHeartbeats 4000000 in
theorem w_fits_25 {p : Program} {l : Launch} {e : Env} {s : State} {m : MethodId} {args : Array Value} {below : List Frame} {meth : Method} {c : Code} {Q : State → Prop} {D : va_G} {cy ci : ClassId} {h : Nat → Nat} {A0 : Nat → Prop} {o : Int32 × MS} (X : CallFix p m c cX12_fits 10 s args wsX12_fits RX12) (hret : mRi p l e ({ frames := 6, cells := 0, slots := 0, locals := 156 } : Room) s m args below meth c Q cX12_fits D cy ci h A0 .boolean o) {x1 : Int32} {x2 : Int32} {x3 : Int32} {x4 : Int32} {t0 : Int32} {I : Nat → Int32} {A : Nat → Nat → Int32} {H : Heap} {locs : List Loc} {ls : Array Slot} (hf : f_fits_25 x1 x2 x3 x4 t0 I A = some o) (hM : mH D cy ci h A0 s H locs I A) (hl : lv_has ls 10 [(0, .ref (h 0)), (1, .int x1), (2, .int x2), (3, .int x3), (4, .int x4)]) : W p l e ({ frames := 6, cells := 0, slots := 0, locals := 156 } : Room) s m args below meth c H locs 0 0 Q (F0 m 25 ls [.int t0]) := by
  obtain ⟨hx, hb, hml, hown, hts⟩ := id X
  unfold f_fits_25 at hf
  refine lv_istore (lv' := [(6, .int t0), (0, .ref (h 0)), (1, .int x1), (2, .int x2), (3, .int x3), (4, .int x4)]) hx hb dX12_fits_25 hl (by decide) rfl (fun ls hl => ?_)
  refine lv_aload_n hx hb dX12_fits_27 rfl (lv_at hl 1 rfl) ?_
  refine lv_iload_n hx hb dX12_fits_28 rfl (lv_at hl 2 rfl) ?_
  obtain ⟨o1, ho, hf⟩ := m_clE hf
  refine m_callVi X hM (c_isTaking ho) gX12_fits_X12_isTaking rfl ⟨rfl, rfl⟩ hd_isTaking ⟨Nat.le_of_ble_eq_true rfl, Nat.le_of_ble_eq_true rfl⟩ rfl hl.1 rfl (Nat.le_of_ble_eq_true rfl) dX12_fits_29 (fun H locs hM => ?_)
  clear ho
  refine lv_istore (lv' := [(7, .int o1.1), (6, .int t0), (0, .ref (h 0)), (1, .int x1), (2, .int x2), (3, .int x3), (4, .int x4)]) hx hb dX12_fits_32 hl (by decide) rfl (fun ls hl => ?_)
  refine lv_iconst (v := (0 : Int32)) hx hb dX12_fits_34 (by decide) ?_
  refine lv_istore (lv' := [(8, .int (0 : Int32)), (7, .int o1.1), (6, .int t0), (0, .ref (h 0)), (1, .int x1), (2, .int x2), (3, .int x3), (4, .int x4)]) hx hb dX12_fits_35 hl (by decide) rfl (fun ls hl => ?_)
  exact w_fits_37 X hret _ _ _ _ _ _ _ _ _ _ _ _ _ hf hM (lv_sub hl [3, 4, 5, 6, 7, 2, 1, 0] rfl)
noncomputable def f_fits_0 (x1 : Int32) (x2 : Int32) (x3 : Int32) (x4 : Int32) (I : Nat → Int32) (A : Nat → Nat → Int32) : Option (Int32 × MS) :=
  m_bnd (x1 - x1 / (64 : Int32) * (64 : Int32)) (fun v1 =>
  m_chk (¬ (v1 < 0 ∨ 64 ≤ (v1).toNatClampNeg)) (
  m_bnd (A 24 (v1).toNatClampNeg) (fun v2 =>
  m_cl (f_kind v2 I A) (fun r3 Ic3 Ac3 =>
  m_if (r3 = (1 : Int32)) (
  f_fits_25 x1 x2 x3 x4 (1 : Int32) Ic3 Ac3
  ) (
  f_fits_25 x1 x2 x3 x4 (0 : Int32) Ic3 Ac3
  )))))

set_option maxRecDepth 100000 in
set_option maxHeartbeats 4000000 in
theorem w_fits_0 {p : Program} {l : Launch} {e : Env} {s : State} {m : MethodId} {args : Array Value} {below : List Frame} {meth : Method} {c : Code} {Q : State → Prop} {D : va_G} {cy ci : ClassId} {h : Nat → Nat} {A0 : Nat → Prop} {o : Int32 × MS} (X : CallFix p m c cX12_fits 10 s args wsX12_fits RX12) (hret : mRi p l e ({ frames := 6, cells := 0, slots := 0, locals := 156 } : Room) s m args below meth c Q cX12_fits D cy ci h A0 .boolean o) {x1 : Int32} {x2 : Int32} {x3 : Int32} {x4 : Int32} {I : Nat → Int32} {A : Nat → Nat → Int32} {H : Heap} {locs : List Loc} {ls : Array Slot} (hf : f_fits_0 x1 x2 x3 x4 I A = some o) (hM : mH D cy ci h A0 s H locs I A) (hl : lv_has ls 10 [(0, .ref (h 0)), (1, .int x1), (2, .int x2), (3, .int x3), (4, .int x4)]) : W p l e ({ frames := 6, cells := 0, slots := 0, locals := 156 } : Room) s m args below meth c H locs 0 0 Q (F0 m 0 ls []) := by
  obtain ⟨hx, hb, hml, hown, hts⟩ := id X
  unfold f_fits_0 at hf
  refine lv_aload_n hx hb dX12_fits_0 rfl (lv_at hl 0 rfl) ?_
  refine m_get (v := .ref (h 24)) X hw_fits hM 24 (by decide) fl_fits_24 rfl dX12_fits_1 ?_
  refine lv_iload_n hx hb dX12_fits_4 rfl (lv_at hl 1 rfl) ?_
  refine lv_bipush (v := (64 : Int32)) hx hb dX12_fits_5 (by decide) ?_
  refine lv_irem hx hb dX12_fits_7 (by decide) ?_
  obtain ⟨v1, ev, hf⟩ := m_bndE hf
  refine m_top ev ?_
  clear ev
  obtain ⟨cd, hf⟩ := m_chkE hf
  refine m_iald X hM 24 20 64 rfl cd dX12_fits_8 ?_
  clear cd
  obtain ⟨v2, ev, hf⟩ := m_bndE hf
  refine m_top ev ?_
  clear ev
  obtain ⟨o3, ho, hf⟩ := m_clE hf
  refine m_callSi X hM (c_kind ho) gX12_fits_X12_kind rfl ⟨rfl, rfl⟩ hd_kind ⟨Nat.le_of_ble_eq_true rfl, Nat.le_of_ble_eq_true rfl⟩ rfl hl.1 rfl (Nat.le_of_ble_eq_true rfl) dX12_fits_9 (fun H locs hM => ?_)
  clear ho
  refine lv_istore (lv' := [(5, .int o3.1), (0, .ref (h 0)), (1, .int x1), (2, .int x2), (3, .int x3), (4, .int x4)]) hx hb dX12_fits_12 hl (by decide) rfl (fun ls hl => ?_)
  refine lv_iload hx hb dX12_fits_14 (lv_at hl 0 rfl) ?_
  refine lv_iconst (v := (1 : Int32)) hx hb dX12_fits_16 (by decide) ?_
  refine lv_icmp_ne (tgt := 24) hx hb dX12_fits_17 (by decide) (fun cc1 => ?_) (fun cc1 => ?_)
  · replace hf := m_ifF hf cc1
    refine lv_iconst (v := (0 : Int32)) hx hb dX12_fits_24 (by decide) ?_
    exact w_fits_25 X hret hf hM (lv_sub hl [1, 2, 3, 4, 5] rfl)
  · replace hf := m_ifT hf cc1
    refine lv_iconst (v := (1 : Int32)) hx hb dX12_fits_20 (by decide) ?_
    refine lv_goto (tgt := 25) hx hb dX12_fits_21 (by decide) ?_
    exact w_fits_25 X hret hf hM (lv_sub hl [1, 2, 3, 4, 5] rfl)
noncomputable def f_fits (x1 : Int32) (x2 : Int32) (x3 : Int32) (x4 : Int32) (I : Nat → Int32) (A : Nat → Nat → Int32) : Option (Int32 × MS) := f_fits_0 x1 x2 x3 x4 I A
theorem c_fits {l : Launch} {D : va_G} {cy ci : ClassId} {h : Nat → Nat} {x1 : Int32} {x2 : Int32} {x3 : Int32} {x4 : Int32} {I : Nat → Int32} {A : Nat → Nat → Int32} {o : Int32 × MS} (hf : f_fits x1 x2 x3 x4 I A = some o) : mMi l yX12_fits wsX12_fits ({ frames := 6, cells := 0, slots := 0, locals := 156 } : Room) [.ref (h 0), .int x1, .int x2, .int x3, .int x4] D cy ci h I A o :=
  m_entryI (cc := cX12_fits) (maxL := 10) (by decide) rfl rfl (Nat.le_of_ble_eq_true rfl) (fun p e s m args below meth c A0 Q H locs ls X hret hM hl => w_fits_0 X hret hf hM (lv_sub hl [0, 1, 2, 3, 4] rfl))
theorem hw_understood : ∀ w ∈ wsX120, w ∈ wsX12_understood := by decide +kernel
theorem fl_understood_32 : Cond.fieldLink RX12 79 "MoveTextsModel" "list" "[I" ∈ wsX12_understood := by decide +kernel
theorem fl_understood_33 : Cond.fieldLink RX12 170 "MoveTextsModel" "moves" "I" ∈ wsX12_understood := by decide +kernel
theorem hd_understood : yX12_understood.cls = RX12 ∧ yX12_understood.cls ≠ "java/lang/invoke/MethodHandle" ∧ yX12_understood.cls ≠ "java/lang/invoke/VarHandle" ∧ (parseMethodDescriptor yX12_understood.desc).map (fun d => d.parameters.length) = some 2 := by decide +kernel
noncomputable def f_understood_122 (t0 : Int32) (I : Nat → Int32) (A : Nat → Nat → Int32) : Option (Int32 × MS) :=
  some (t0, (I, A))

set_option maxRecDepth 100000 in
set_option maxHeartbeats 4000000 in
theorem w_understood_122 {p : Program} {l : Launch} {e : Env} {s : State} {m : MethodId} {args : Array Value} {below : List Frame} {meth : Method} {c : Code} {Q : State → Prop} {D : va_G} {cy ci : ClassId} {h : Nat → Nat} {A0 : Nat → Prop} {o : Int32 × MS} (X : CallFix p m c cX12_understood 6 s args wsX12_understood RX12) (hret : mRi p l e ({ frames := 7, cells := 0, slots := 0, locals := 185 } : Room) s m args below meth c Q cX12_understood D cy ci h A0 .int o) {t0 : Int32} {I : Nat → Int32} {A : Nat → Nat → Int32} {H : Heap} {locs : List Loc} {ls : Array Slot} (hf : f_understood_122 t0 I A = some o) (hM : mH D cy ci h A0 s H locs I A) (hl : lv_has ls 6 []) : W p l e ({ frames := 7, cells := 0, slots := 0, locals := 185 } : Room) s m args below meth c H locs 0 0 Q (F0 m 122 ls [.int t0]) := by
  obtain ⟨hx, hb, hml, hown, hts⟩ := id X
  unfold f_understood_122 at hf
  cases hf
  exact hret H locs _ ls hM rfl dX12_understood_122
noncomputable def f_understood_104 (self71 : Int32 → Int32 → Int32 → Int32 → (Nat → Int32) → (Nat → Nat → Int32) → Option (Int32 × MS)) (x1 : Int32) (x2 : Int32) (x5 : Int32) (t0 : Int32) (I : Nat → Int32) (A : Nat → Nat → Int32) : Option (Int32 × MS) :=
  m_bnd (x5 + (1 : Int32)) (fun v1 =>
  self71 x1 x2 t0 v1 I A)

set_option maxRecDepth 100000 in
set_option maxHeartbeats 4000000 in
theorem w_understood_104 {p : Program} {l : Launch} {e : Env} {s : State} {m : MethodId} {args : Array Value} {below : List Frame} {meth : Method} {c : Code} {Q : State → Prop} {D : va_G} {cy ci : ClassId} {h : Nat → Nat} {A0 : Nat → Prop} {o : Int32 × MS} (X : CallFix p m c cX12_understood 6 s args wsX12_understood RX12) (hret : mRi p l e ({ frames := 7, cells := 0, slots := 0, locals := 185 } : Room) s m args below meth c Q cX12_understood D cy ci h A0 .int o) {self71 : Int32 → Int32 → Int32 → Int32 → (Nat → Int32) → (Nat → Nat → Int32) → Option (Int32 × MS)} (hself71 : ∀ (x1 : Int32) (x2 : Int32) (x3 : Int32) (x5 : Int32) (I : Nat → Int32) (A : Nat → Nat → Int32) (H : Heap) (locs : List Loc) (ls : Array Slot), self71 x1 x2 x3 x5 I A = some o → mH D cy ci h A0 s H locs I A → lv_has ls 6 [(0, .ref (h 0)), (1, .int x1), (2, .int x2), (3, .int x3), (5, .int x5)] → W p l e ({ frames := 7, cells := 0, slots := 0, locals := 185 } : Room) s m args below meth c H locs 0 0 Q (F0 m 71 ls [])) {x1 : Int32} {x2 : Int32} {x5 : Int32} {t0 : Int32} {I : Nat → Int32} {A : Nat → Nat → Int32} {H : Heap} {locs : List Loc} {ls : Array Slot} (hf : f_understood_104 self71 x1 x2 x5 t0 I A = some o) (hM : mH D cy ci h A0 s H locs I A) (hl : lv_has ls 6 [(0, .ref (h 0)), (1, .int x1), (2, .int x2), (5, .int x5)]) : W p l e ({ frames := 7, cells := 0, slots := 0, locals := 185 } : Room) s m args below meth c H locs 0 0 Q (F0 m 104 ls [.int t0]) := by
  obtain ⟨hx, hb, hml, hown, hts⟩ := id X
  unfold f_understood_104 at hf
  refine lv_istore_n (lv' := [(3, .int t0), (0, .ref (h 0)), (1, .int x1), (2, .int x2), (5, .int x5)]) hx hb dX12_understood_104 rfl hl (by decide) rfl (fun ls hl => ?_)
  obtain ⟨v1, ev, hf⟩ := m_bndE hf
  refine lv_iinc (v := v1) (lv' := [(5, .int v1), (3, .int t0), (0, .ref (h 0)), (1, .int x1), (2, .int x2)]) hx hb dX12_understood_105 hl (k := 4) rfl (by rw [ev]; rfl) (by decide) rfl (fun ls hl => ?_)
  clear ev
  refine lv_goto (tgt := 71) hx hb dX12_understood_108 (by decide) ?_
  exact hself71 _ _ _ _ _ _ _ _ _ hf hM (lv_sub hl [2, 3, 4, 1, 0] rfl)
noncomputable def f_understood_71s (self71 : Int32 → Int32 → Int32 → Int32 → (Nat → Int32) → (Nat → Nat → Int32) → Option (Int32 × MS)) (x1 : Int32) (x2 : Int32) (x3 : Int32) (x5 : Int32) (I : Nat → Int32) (A : Nat → Nat → Int32) : Option (Int32 × MS) :=
  m_if ((I 33) ≤ x5) (
  m_if (x3 = (1 : Int32)) (
  f_understood_122 (-2 : Int32) I A
  ) (
  f_understood_122 (-1 : Int32) I A
  )
  ) (
  m_chk (¬ (x5 < 0 ∨ 2048 ≤ (x5).toNatClampNeg)) (
  m_bnd (A 32 (x5).toNatClampNeg) (fun v1 =>
  m_cl (f_fits v1 x1 x2 (1 : Int32) I A) (fun r2 Ic2 Ac2 =>
  m_if (r2 = 0) (
  f_understood_104 self71 x1 x2 x5 x3 Ic2 Ac2
  ) (
  m_bnd (x3 + (1 : Int32)) (fun v3 =>
  f_understood_104 self71 x1 x2 x5 v3 Ic2 Ac2)
  ))))
  )

set_option maxRecDepth 100000 in
set_option maxHeartbeats 4000000 in
theorem ws_understood_71 {p : Program} {l : Launch} {e : Env} {s : State} {m : MethodId} {args : Array Value} {below : List Frame} {meth : Method} {c : Code} {Q : State → Prop} {D : va_G} {cy ci : ClassId} {h : Nat → Nat} {A0 : Nat → Prop} {o : Int32 × MS} (X : CallFix p m c cX12_understood 6 s args wsX12_understood RX12) (hret : mRi p l e ({ frames := 7, cells := 0, slots := 0, locals := 185 } : Room) s m args below meth c Q cX12_understood D cy ci h A0 .int o) {self71 : Int32 → Int32 → Int32 → Int32 → (Nat → Int32) → (Nat → Nat → Int32) → Option (Int32 × MS)} (hself71 : ∀ (x1 : Int32) (x2 : Int32) (x3 : Int32) (x5 : Int32) (I : Nat → Int32) (A : Nat → Nat → Int32) (H : Heap) (locs : List Loc) (ls : Array Slot), self71 x1 x2 x3 x5 I A = some o → mH D cy ci h A0 s H locs I A → lv_has ls 6 [(0, .ref (h 0)), (1, .int x1), (2, .int x2), (3, .int x3), (5, .int x5)] → W p l e ({ frames := 7, cells := 0, slots := 0, locals := 185 } : Room) s m args below meth c H locs 0 0 Q (F0 m 71 ls [])) {x1 : Int32} {x2 : Int32} {x3 : Int32} {x5 : Int32} {I : Nat → Int32} {A : Nat → Nat → Int32} {H : Heap} {locs : List Loc} {ls : Array Slot} (hf : f_understood_71s self71 x1 x2 x3 x5 I A = some o) (hM : mH D cy ci h A0 s H locs I A) (hl : lv_has ls 6 [(0, .ref (h 0)), (1, .int x1), (2, .int x2), (3, .int x3), (5, .int x5)]) : W p l e ({ frames := 7, cells := 0, slots := 0, locals := 185 } : Room) s m args below meth c H locs 0 0 Q (F0 m 71 ls []) := by
  obtain ⟨hx, hb, hml, hown, hts⟩ := id X
  unfold f_understood_71s at hf
  refine lv_iload hx hb dX12_understood_71 (lv_at hl 4 rfl) ?_
  refine lv_aload_n hx hb dX12_understood_73 rfl (lv_at hl 0 rfl) ?_
  refine m_get (v := .int (I 33)) X hw_understood hM 33 (by decide) fl_understood_33 rfl dX12_understood_74 ?_
  refine lv_icmp_ge (tgt := 111) hx hb dX12_understood_77 (by decide) (fun cc1 => ?_) (fun cc1 => ?_)
  · replace hf := m_ifT hf cc1
    refine lv_iload_n hx hb dX12_understood_111 rfl (lv_at hl 3 rfl) ?_
    refine lv_iconst (v := (1 : Int32)) hx hb dX12_understood_112 (by decide) ?_
    refine lv_icmp_ne (tgt := 121) hx hb dX12_understood_113 (by decide) (fun cc1 => ?_) (fun cc1 => ?_)
    · replace hf := m_ifF hf cc1
      refine lv_iconst (v := (-1 : Int32)) hx hb dX12_understood_121 (by decide) ?_
      exact w_understood_122 X hret hf hM (lv_sub hl [] rfl)
    · replace hf := m_ifT hf cc1
      refine lv_bipush (v := (-2 : Int32)) hx hb dX12_understood_116 (by decide) ?_
      refine lv_goto (tgt := 122) hx hb dX12_understood_118 (by decide) ?_
      exact w_understood_122 X hret hf hM (lv_sub hl [] rfl)
  · replace hf := m_ifF hf cc1
    refine lv_aload_n hx hb dX12_understood_80 rfl (lv_at hl 0 rfl) ?_
    refine lv_aload_n hx hb dX12_understood_81 rfl (lv_at hl 0 rfl) ?_
    refine m_get (v := .ref (h 32)) X hw_understood hM 32 (by decide) fl_understood_32 rfl dX12_understood_82 ?_
    refine lv_iload hx hb dX12_understood_85 (lv_at hl 4 rfl) ?_
    obtain ⟨cd, hf⟩ := m_chkE hf
    refine m_iald X hM 32 23 2048 rfl cd dX12_understood_87 ?_
    clear cd
    obtain ⟨v1, ev, hf⟩ := m_bndE hf
    refine m_top ev ?_
    clear ev
    refine lv_iload_n hx hb dX12_understood_88 rfl (lv_at hl 1 rfl) ?_
    refine lv_iload_n hx hb dX12_understood_89 rfl (lv_at hl 2 rfl) ?_
    refine lv_iconst (v := (1 : Int32)) hx hb dX12_understood_90 (by decide) ?_
    obtain ⟨o2, ho, hf⟩ := m_clE hf
    refine m_callVi X hM (c_fits ho) gX12_understood_X12_fits rfl ⟨rfl, rfl⟩ hd_fits ⟨Nat.le_of_ble_eq_true rfl, Nat.le_of_ble_eq_true rfl⟩ rfl hl.1 rfl (Nat.le_of_ble_eq_true rfl) dX12_understood_91 (fun H locs hM => ?_)
    clear ho
    refine lv_if_eq (tgt := 103) hx hb dX12_understood_94 (by decide) (fun cc1 => ?_) (fun cc1 => ?_)
    · replace hf := m_ifT hf cc1
      refine lv_iload_n hx hb dX12_understood_103 rfl (lv_at hl 3 rfl) ?_
      exact w_understood_104 X hret hself71 hf hM (lv_sub hl [0, 1, 2, 4] rfl)
    · replace hf := m_ifF hf cc1
      refine lv_iload_n hx hb dX12_understood_97 rfl (lv_at hl 3 rfl) ?_
      refine lv_iconst (v := (1 : Int32)) hx hb dX12_understood_98 (by decide) ?_
      refine lv_iadd hx hb dX12_understood_99 ?_
      obtain ⟨v3, ev, hf⟩ := m_bndE hf
      refine m_top ev ?_
      clear ev
      refine lv_goto (tgt := 104) hx hb dX12_understood_100 (by decide) ?_
      exact w_understood_104 X hret hself71 hf hM (lv_sub hl [0, 1, 2, 4] rfl)
noncomputable def f_understood_71 : Nat → Int32 → Int32 → Int32 → Int32 → (Nat → Int32) → (Nat → Nat → Int32) → Option (Int32 × MS)
  | 0 => fun _ _ _ _ _ _ => none
  | n + 1 => f_understood_71s (f_understood_71 n)
theorem w_understood_71 {p : Program} {l : Launch} {e : Env} {s : State} {m : MethodId} {args : Array Value} {below : List Frame} {meth : Method} {c : Code} {Q : State → Prop} {D : va_G} {cy ci : ClassId} {h : Nat → Nat} {A0 : Nat → Prop} {o : Int32 × MS} (X : CallFix p m c cX12_understood 6 s args wsX12_understood RX12) (hret : mRi p l e ({ frames := 7, cells := 0, slots := 0, locals := 185 } : Room) s m args below meth c Q cX12_understood D cy ci h A0 .int o) (n : Nat) : ∀ (x1 : Int32) (x2 : Int32) (x3 : Int32) (x5 : Int32) (I : Nat → Int32) (A : Nat → Nat → Int32) (H : Heap) (locs : List Loc) (ls : Array Slot), f_understood_71 n x1 x2 x3 x5 I A = some o → mH D cy ci h A0 s H locs I A → lv_has ls 6 [(0, .ref (h 0)), (1, .int x1), (2, .int x2), (3, .int x3), (5, .int x5)] → W p l e ({ frames := 7, cells := 0, slots := 0, locals := 185 } : Room) s m args below meth c H locs 0 0 Q (F0 m 71 ls []) := by
  induction n with
  | zero => intro x1 x2 x3 x5 I A H locs ls hf; cases hf
  | succ n ih => intro x1 x2 x3 x5 I A H locs ls hf hM hl; exact ws_understood_71 X hret (self71 := f_understood_71 n) ih hf hM hl
noncomputable def f_understood_67 (t0 : Int32) (I : Nat → Int32) (A : Nat → Nat → Int32) : Option (Int32 × MS) :=
  some (t0, (I, A))

set_option maxRecDepth 100000 in
set_option maxHeartbeats 4000000 in
theorem w_understood_67 {p : Program} {l : Launch} {e : Env} {s : State} {m : MethodId} {args : Array Value} {below : List Frame} {meth : Method} {c : Code} {Q : State → Prop} {D : va_G} {cy ci : ClassId} {h : Nat → Nat} {A0 : Nat → Prop} {o : Int32 × MS} (X : CallFix p m c cX12_understood 6 s args wsX12_understood RX12) (hret : mRi p l e ({ frames := 7, cells := 0, slots := 0, locals := 185 } : Room) s m args below meth c Q cX12_understood D cy ci h A0 .int o) {t0 : Int32} {I : Nat → Int32} {A : Nat → Nat → Int32} {H : Heap} {locs : List Loc} {ls : Array Slot} (hf : f_understood_67 t0 I A = some o) (hM : mH D cy ci h A0 s H locs I A) (hl : lv_has ls 6 []) : W p l e ({ frames := 7, cells := 0, slots := 0, locals := 185 } : Room) s m args below meth c H locs 0 0 Q (F0 m 67 ls [.int t0]) := by
  obtain ⟨hx, hb, hml, hown, hts⟩ := id X
  unfold f_understood_67 at hf
  cases hf
  exact hret H locs _ ls hM rfl dX12_understood_67
noncomputable def f_understood_46 (self8 : Int32 → Int32 → Int32 → Int32 → Int32 → (Nat → Int32) → (Nat → Nat → Int32) → Option (Int32 × MS)) (x1 : Int32) (x2 : Int32) (x3 : Int32) (x4 : Int32) (x5 : Int32) (I : Nat → Int32) (A : Nat → Nat → Int32) : Option (Int32 × MS) :=
  m_bnd (x5 + (1 : Int32)) (fun v1 =>
  self8 x1 x2 x3 x4 v1 I A)

set_option maxRecDepth 100000 in
set_option maxHeartbeats 4000000 in
theorem w_understood_46 {p : Program} {l : Launch} {e : Env} {s : State} {m : MethodId} {args : Array Value} {below : List Frame} {meth : Method} {c : Code} {Q : State → Prop} {D : va_G} {cy ci : ClassId} {h : Nat → Nat} {A0 : Nat → Prop} {o : Int32 × MS} (X : CallFix p m c cX12_understood 6 s args wsX12_understood RX12) (hret : mRi p l e ({ frames := 7, cells := 0, slots := 0, locals := 185 } : Room) s m args below meth c Q cX12_understood D cy ci h A0 .int o) {self8 : Int32 → Int32 → Int32 → Int32 → Int32 → (Nat → Int32) → (Nat → Nat → Int32) → Option (Int32 × MS)} (hself8 : ∀ (x1 : Int32) (x2 : Int32) (x3 : Int32) (x4 : Int32) (x5 : Int32) (I : Nat → Int32) (A : Nat → Nat → Int32) (H : Heap) (locs : List Loc) (ls : Array Slot), self8 x1 x2 x3 x4 x5 I A = some o → mH D cy ci h A0 s H locs I A → lv_has ls 6 [(0, .ref (h 0)), (1, .int x1), (2, .int x2), (3, .int x3), (4, .int x4), (5, .int x5)] → W p l e ({ frames := 7, cells := 0, slots := 0, locals := 185 } : Room) s m args below meth c H locs 0 0 Q (F0 m 8 ls [])) {x1 : Int32} {x2 : Int32} {x3 : Int32} {x4 : Int32} {x5 : Int32} {I : Nat → Int32} {A : Nat → Nat → Int32} {H : Heap} {locs : List Loc} {ls : Array Slot} (hf : f_understood_46 self8 x1 x2 x3 x4 x5 I A = some o) (hM : mH D cy ci h A0 s H locs I A) (hl : lv_has ls 6 [(0, .ref (h 0)), (1, .int x1), (2, .int x2), (3, .int x3), (4, .int x4), (5, .int x5)]) : W p l e ({ frames := 7, cells := 0, slots := 0, locals := 185 } : Room) s m args below meth c H locs 0 0 Q (F0 m 46 ls []) := by
  obtain ⟨hx, hb, hml, hown, hts⟩ := id X
  unfold f_understood_46 at hf
  obtain ⟨v1, ev, hf⟩ := m_bndE hf
  refine lv_iinc (v := v1) (lv' := [(5, .int v1), (0, .ref (h 0)), (1, .int x1), (2, .int x2), (3, .int x3), (4, .int x4)]) hx hb dX12_understood_46 hl (k := 5) rfl (by rw [ev]; rfl) (by decide) rfl (fun ls hl => ?_)
  clear ev
  refine lv_goto (tgt := 8) hx hb dX12_understood_49 (by decide) ?_
  exact hself8 _ _ _ _ _ _ _ _ _ _ hf hM (lv_sub hl [1, 2, 3, 4, 5, 0] rfl)
noncomputable def f_understood_8s (self8 : Int32 → Int32 → Int32 → Int32 → Int32 → (Nat → Int32) → (Nat → Nat → Int32) → Option (Int32 × MS)) (x1 : Int32) (x2 : Int32) (x3 : Int32) (x4 : Int32) (x5 : Int32) (I : Nat → Int32) (A : Nat → Nat → Int32) : Option (Int32 × MS) :=
  m_if ((I 33) ≤ x5) (
  m_if (x3 ≤ 0) (
  f_understood_71 mFuel x1 x2 x3 (0 : Int32) I A
  ) (
  m_if (x3 = (1 : Int32)) (
  f_understood_67 x4 I A
  ) (
  f_understood_67 (-1 : Int32) I A
  )
  )
  ) (
  m_chk (¬ (x5 < 0 ∨ 2048 ≤ (x5).toNatClampNeg)) (
  m_bnd (A 32 (x5).toNatClampNeg) (fun v1 =>
  m_cl (f_fits v1 x1 x2 (0 : Int32) I A) (fun r2 Ic2 Ac2 =>
  m_if (r2 = 0) (
  f_understood_46 self8 x1 x2 x3 x4 x5 Ic2 Ac2
  ) (
  m_bnd (x3 + (1 : Int32)) (fun v3 =>
  m_chk (¬ (x5 < 0 ∨ 2048 ≤ (x5).toNatClampNeg)) (
  m_bnd (Ac2 32 (x5).toNatClampNeg) (fun v4 =>
  f_understood_46 self8 x1 x2 v3 v4 x5 Ic2 Ac2)))
  ))))
  )

set_option maxRecDepth 100000 in
set_option maxHeartbeats 4000000 in
theorem ws_understood_8 {p : Program} {l : Launch} {e : Env} {s : State} {m : MethodId} {args : Array Value} {below : List Frame} {meth : Method} {c : Code} {Q : State → Prop} {D : va_G} {cy ci : ClassId} {h : Nat → Nat} {A0 : Nat → Prop} {o : Int32 × MS} (X : CallFix p m c cX12_understood 6 s args wsX12_understood RX12) (hret : mRi p l e ({ frames := 7, cells := 0, slots := 0, locals := 185 } : Room) s m args below meth c Q cX12_understood D cy ci h A0 .int o) {self8 : Int32 → Int32 → Int32 → Int32 → Int32 → (Nat → Int32) → (Nat → Nat → Int32) → Option (Int32 × MS)} (hself8 : ∀ (x1 : Int32) (x2 : Int32) (x3 : Int32) (x4 : Int32) (x5 : Int32) (I : Nat → Int32) (A : Nat → Nat → Int32) (H : Heap) (locs : List Loc) (ls : Array Slot), self8 x1 x2 x3 x4 x5 I A = some o → mH D cy ci h A0 s H locs I A → lv_has ls 6 [(0, .ref (h 0)), (1, .int x1), (2, .int x2), (3, .int x3), (4, .int x4), (5, .int x5)] → W p l e ({ frames := 7, cells := 0, slots := 0, locals := 185 } : Room) s m args below meth c H locs 0 0 Q (F0 m 8 ls [])) {x1 : Int32} {x2 : Int32} {x3 : Int32} {x4 : Int32} {x5 : Int32} {I : Nat → Int32} {A : Nat → Nat → Int32} {H : Heap} {locs : List Loc} {ls : Array Slot} (hf : f_understood_8s self8 x1 x2 x3 x4 x5 I A = some o) (hM : mH D cy ci h A0 s H locs I A) (hl : lv_has ls 6 [(0, .ref (h 0)), (1, .int x1), (2, .int x2), (3, .int x3), (4, .int x4), (5, .int x5)]) : W p l e ({ frames := 7, cells := 0, slots := 0, locals := 185 } : Room) s m args below meth c H locs 0 0 Q (F0 m 8 ls []) := by
  obtain ⟨hx, hb, hml, hown, hts⟩ := id X
  unfold f_understood_8s at hf
  refine lv_iload hx hb dX12_understood_8 (lv_at hl 5 rfl) ?_
  refine lv_aload_n hx hb dX12_understood_10 rfl (lv_at hl 0 rfl) ?_
  refine m_get (v := .int (I 33)) X hw_understood hM 33 (by decide) fl_understood_33 rfl dX12_understood_11 ?_
  refine lv_icmp_ge (tgt := 52) hx hb dX12_understood_14 (by decide) (fun cc1 => ?_) (fun cc1 => ?_)
  · replace hf := m_ifT hf cc1
    refine lv_iload_n hx hb dX12_understood_52 rfl (lv_at hl 3 rfl) ?_
    refine lv_if_le (tgt := 68) hx hb dX12_understood_53 (by decide) (fun cc1 => ?_) (fun cc1 => ?_)
    · replace hf := m_ifT hf cc1
      refine lv_iconst (v := (0 : Int32)) hx hb dX12_understood_68 (by decide) ?_
      refine lv_istore (lv' := [(5, .int (0 : Int32)), (0, .ref (h 0)), (1, .int x1), (2, .int x2), (3, .int x3), (4, .int x4)]) hx hb dX12_understood_69 hl (by decide) rfl (fun ls hl => ?_)
      exact w_understood_71 X hret _ _ _ _ _ _ _ _ _ _ hf hM (lv_sub hl [1, 2, 3, 4, 0] rfl)
    · replace hf := m_ifF hf cc1
      refine lv_iload_n hx hb dX12_understood_56 rfl (lv_at hl 3 rfl) ?_
      refine lv_iconst (v := (1 : Int32)) hx hb dX12_understood_57 (by decide) ?_
      refine lv_icmp_ne (tgt := 66) hx hb dX12_understood_58 (by decide) (fun cc1 => ?_) (fun cc1 => ?_)
      · replace hf := m_ifF hf cc1
        refine lv_iconst (v := (-1 : Int32)) hx hb dX12_understood_66 (by decide) ?_
        exact w_understood_67 X hret hf hM (lv_sub hl [] rfl)
      · replace hf := m_ifT hf cc1
        refine lv_iload hx hb dX12_understood_61 (lv_at hl 4 rfl) ?_
        refine lv_goto (tgt := 67) hx hb dX12_understood_63 (by decide) ?_
        exact w_understood_67 X hret hf hM (lv_sub hl [] rfl)
  · replace hf := m_ifF hf cc1
    refine lv_aload_n hx hb dX12_understood_17 rfl (lv_at hl 0 rfl) ?_
    refine lv_aload_n hx hb dX12_understood_18 rfl (lv_at hl 0 rfl) ?_
    refine m_get (v := .ref (h 32)) X hw_understood hM 32 (by decide) fl_understood_32 rfl dX12_understood_19 ?_
    refine lv_iload hx hb dX12_understood_22 (lv_at hl 5 rfl) ?_
    obtain ⟨cd, hf⟩ := m_chkE hf
    refine m_iald X hM 32 23 2048 rfl cd dX12_understood_24 ?_
    clear cd
    obtain ⟨v1, ev, hf⟩ := m_bndE hf
    refine m_top ev ?_
    clear ev
    refine lv_iload_n hx hb dX12_understood_25 rfl (lv_at hl 1 rfl) ?_
    refine lv_iload_n hx hb dX12_understood_26 rfl (lv_at hl 2 rfl) ?_
    refine lv_iconst (v := (0 : Int32)) hx hb dX12_understood_27 (by decide) ?_
    obtain ⟨o2, ho, hf⟩ := m_clE hf
    refine m_callVi X hM (c_fits ho) gX12_understood_X12_fits rfl ⟨rfl, rfl⟩ hd_fits ⟨Nat.le_of_ble_eq_true rfl, Nat.le_of_ble_eq_true rfl⟩ rfl hl.1 rfl (Nat.le_of_ble_eq_true rfl) dX12_understood_28 (fun H locs hM => ?_)
    clear ho
    refine lv_if_eq (tgt := 46) hx hb dX12_understood_31 (by decide) (fun cc1 => ?_) (fun cc1 => ?_)
    · replace hf := m_ifT hf cc1
      exact w_understood_46 X hret hself8 hf hM (lv_sub hl [0, 1, 2, 3, 4, 5] rfl)
    · replace hf := m_ifF hf cc1
      obtain ⟨v3, ev, hf⟩ := m_bndE hf
      refine lv_iinc (v := v3) (lv' := [(3, .int v3), (0, .ref (h 0)), (1, .int x1), (2, .int x2), (4, .int x4), (5, .int x5)]) hx hb dX12_understood_34 hl (k := 3) rfl (by rw [ev]; rfl) (by decide) rfl (fun ls hl => ?_)
      clear ev
      refine lv_aload_n hx hb dX12_understood_37 rfl (lv_at hl 1 rfl) ?_
      refine m_get (v := .ref (h 32)) X hw_understood hM 32 (by decide) fl_understood_32 rfl dX12_understood_38 ?_
      refine lv_iload hx hb dX12_understood_41 (lv_at hl 5 rfl) ?_
      obtain ⟨cd, hf⟩ := m_chkE hf
      refine m_iald X hM 32 23 2048 rfl cd dX12_understood_43 ?_
      clear cd
      obtain ⟨v4, ev, hf⟩ := m_bndE hf
      refine m_top ev ?_
      clear ev
      refine lv_istore (lv' := [(4, .int v4), (3, .int v3), (0, .ref (h 0)), (1, .int x1), (2, .int x2), (5, .int x5)]) hx hb dX12_understood_44 hl (by decide) rfl (fun ls hl => ?_)
      exact w_understood_46 X hret hself8 hf hM (lv_sub hl [2, 3, 4, 1, 0, 5] rfl)
noncomputable def f_understood_8 : Nat → Int32 → Int32 → Int32 → Int32 → Int32 → (Nat → Int32) → (Nat → Nat → Int32) → Option (Int32 × MS)
  | 0 => fun _ _ _ _ _ _ _ => none
  | n + 1 => f_understood_8s (f_understood_8 n)
theorem w_understood_8 {p : Program} {l : Launch} {e : Env} {s : State} {m : MethodId} {args : Array Value} {below : List Frame} {meth : Method} {c : Code} {Q : State → Prop} {D : va_G} {cy ci : ClassId} {h : Nat → Nat} {A0 : Nat → Prop} {o : Int32 × MS} (X : CallFix p m c cX12_understood 6 s args wsX12_understood RX12) (hret : mRi p l e ({ frames := 7, cells := 0, slots := 0, locals := 185 } : Room) s m args below meth c Q cX12_understood D cy ci h A0 .int o) (n : Nat) : ∀ (x1 : Int32) (x2 : Int32) (x3 : Int32) (x4 : Int32) (x5 : Int32) (I : Nat → Int32) (A : Nat → Nat → Int32) (H : Heap) (locs : List Loc) (ls : Array Slot), f_understood_8 n x1 x2 x3 x4 x5 I A = some o → mH D cy ci h A0 s H locs I A → lv_has ls 6 [(0, .ref (h 0)), (1, .int x1), (2, .int x2), (3, .int x3), (4, .int x4), (5, .int x5)] → W p l e ({ frames := 7, cells := 0, slots := 0, locals := 185 } : Room) s m args below meth c H locs 0 0 Q (F0 m 8 ls []) := by
  induction n with
  | zero => intro x1 x2 x3 x4 x5 I A H locs ls hf; cases hf
  | succ n ih => intro x1 x2 x3 x4 x5 I A H locs ls hf hM hl; exact ws_understood_8 X hret (self8 := f_understood_8 n) ih hf hM hl
noncomputable def f_understood_0 (x1 : Int32) (x2 : Int32) (I : Nat → Int32) (A : Nat → Nat → Int32) : Option (Int32 × MS) :=
  f_understood_8 mFuel x1 x2 (0 : Int32) (-1 : Int32) (0 : Int32) I A

set_option maxRecDepth 100000 in
set_option maxHeartbeats 4000000 in
theorem w_understood_0 {p : Program} {l : Launch} {e : Env} {s : State} {m : MethodId} {args : Array Value} {below : List Frame} {meth : Method} {c : Code} {Q : State → Prop} {D : va_G} {cy ci : ClassId} {h : Nat → Nat} {A0 : Nat → Prop} {o : Int32 × MS} (X : CallFix p m c cX12_understood 6 s args wsX12_understood RX12) (hret : mRi p l e ({ frames := 7, cells := 0, slots := 0, locals := 185 } : Room) s m args below meth c Q cX12_understood D cy ci h A0 .int o) {x1 : Int32} {x2 : Int32} {I : Nat → Int32} {A : Nat → Nat → Int32} {H : Heap} {locs : List Loc} {ls : Array Slot} (hf : f_understood_0 x1 x2 I A = some o) (hM : mH D cy ci h A0 s H locs I A) (hl : lv_has ls 6 [(0, .ref (h 0)), (1, .int x1), (2, .int x2)]) : W p l e ({ frames := 7, cells := 0, slots := 0, locals := 185 } : Room) s m args below meth c H locs 0 0 Q (F0 m 0 ls []) := by
  obtain ⟨hx, hb, hml, hown, hts⟩ := id X
  unfold f_understood_0 at hf
  refine lv_iconst (v := (0 : Int32)) hx hb dX12_understood_0 (by decide) ?_
  refine lv_istore_n (lv' := [(3, .int (0 : Int32)), (0, .ref (h 0)), (1, .int x1), (2, .int x2)]) hx hb dX12_understood_1 rfl hl (by decide) rfl (fun ls hl => ?_)
  refine lv_iconst (v := (-1 : Int32)) hx hb dX12_understood_2 (by decide) ?_
  refine lv_istore (lv' := [(4, .int (-1 : Int32)), (3, .int (0 : Int32)), (0, .ref (h 0)), (1, .int x1), (2, .int x2)]) hx hb dX12_understood_3 hl (by decide) rfl (fun ls hl => ?_)
  refine lv_iconst (v := (0 : Int32)) hx hb dX12_understood_5 (by decide) ?_
  refine lv_istore (lv' := [(5, .int (0 : Int32)), (4, .int (-1 : Int32)), (3, .int (0 : Int32)), (0, .ref (h 0)), (1, .int x1), (2, .int x2)]) hx hb dX12_understood_6 hl (by decide) rfl (fun ls hl => ?_)
  exact w_understood_8 X hret _ _ _ _ _ _ _ _ _ _ _ hf hM (lv_sub hl [3, 4, 5, 2, 1, 0] rfl)
noncomputable def f_understood (x1 : Int32) (x2 : Int32) (I : Nat → Int32) (A : Nat → Nat → Int32) : Option (Int32 × MS) := f_understood_0 x1 x2 I A
theorem c_understood {l : Launch} {D : va_G} {cy ci : ClassId} {h : Nat → Nat} {x1 : Int32} {x2 : Int32} {I : Nat → Int32} {A : Nat → Nat → Int32} {o : Int32 × MS} (hf : f_understood x1 x2 I A = some o) : mMi l yX12_understood wsX12_understood ({ frames := 7, cells := 0, slots := 0, locals := 185 } : Room) [.ref (h 0), .int x1, .int x2] D cy ci h I A o :=
  m_entryI (cc := cX12_understood) (maxL := 6) (by decide) rfl rfl (Nat.le_of_ble_eq_true rfl) (fun p e s m args below meth c A0 Q H locs ls X hret hM hl => w_understood_0 X hret hf hM (lv_sub hl [0, 1, 2] rfl))
theorem hw_sign : ∀ w ∈ wsX120, w ∈ wsX12_sign := by decide +kernel
theorem fl_sign_22 : Cond.fieldLink RX12 64 "MoveTextsModel" "values" "[C" ∈ wsX12_sign := by decide +kernel
theorem fl_sign_38 : Cond.fieldLink RX12 229 "MoveTextsModel" "valueAt" "I" ∈ wsX12_sign := by decide +kernel
theorem fl_sign_39 : Cond.fieldLink RX12 232 "MoveTextsModel" "valueEnd" "I" ∈ wsX12_sign := by decide +kernel
theorem hd_sign : yX12_sign.cls = RX12 ∧ yX12_sign.cls ≠ "java/lang/invoke/MethodHandle" ∧ yX12_sign.cls ≠ "java/lang/invoke/VarHandle" ∧ (parseMethodDescriptor yX12_sign.desc).map (fun d => d.parameters.length) = some 0 := by decide +kernel
noncomputable def f_sign_24 (t0 : Int32) (I : Nat → Int32) (A : Nat → Nat → Int32) : Option (Int32 × MS) :=
  m_chk (vp_nar .char t0 = t0) (some (t0, (I, A)))

set_option maxRecDepth 100000 in
set_option maxHeartbeats 4000000 in
theorem w_sign_24 {p : Program} {l : Launch} {e : Env} {s : State} {m : MethodId} {args : Array Value} {below : List Frame} {meth : Method} {c : Code} {Q : State → Prop} {D : va_G} {cy ci : ClassId} {h : Nat → Nat} {A0 : Nat → Prop} {o : Int32 × MS} (X : CallFix p m c cX12_sign 1 s args wsX12_sign RX12) (hret : mRi p l e ({ frames := 0, cells := 0, slots := 0, locals := 0 } : Room) s m args below meth c Q cX12_sign D cy ci h A0 .char o) {t0 : Int32} {I : Nat → Int32} {A : Nat → Nat → Int32} {H : Heap} {locs : List Loc} {ls : Array Slot} (hf : f_sign_24 t0 I A = some o) (hM : mH D cy ci h A0 s H locs I A) (hl : lv_has ls 1 []) : W p l e ({ frames := 0, cells := 0, slots := 0, locals := 0 } : Room) s m args below meth c H locs 0 0 Q (F0 m 24 ls [.int t0]) := by
  obtain ⟨hx, hb, hml, hown, hts⟩ := id X
  unfold f_sign_24 at hf
  obtain ⟨cd, hf⟩ := m_chkE hf
  cases hf
  exact hret H locs _ ls hM (m_nc cd) dX12_sign_24
noncomputable def f_sign_0 (I : Nat → Int32) (A : Nat → Nat → Int32) : Option (Int32 × MS) :=
  m_if ((I 39) ≤ (I 38)) (
  f_sign_24 (0 : Int32) I A
  ) (
  m_chk (¬ ((I 38) < 0 ∨ 1536 ≤ ((I 38)).toNatClampNeg)) (
  m_bnd (A 22 ((I 38)).toNatClampNeg) (fun v1 =>
  f_sign_24 v1 I A))
  )

set_option maxRecDepth 100000 in
set_option maxHeartbeats 4000000 in
theorem w_sign_0 {p : Program} {l : Launch} {e : Env} {s : State} {m : MethodId} {args : Array Value} {below : List Frame} {meth : Method} {c : Code} {Q : State → Prop} {D : va_G} {cy ci : ClassId} {h : Nat → Nat} {A0 : Nat → Prop} {o : Int32 × MS} (X : CallFix p m c cX12_sign 1 s args wsX12_sign RX12) (hret : mRi p l e ({ frames := 0, cells := 0, slots := 0, locals := 0 } : Room) s m args below meth c Q cX12_sign D cy ci h A0 .char o) {I : Nat → Int32} {A : Nat → Nat → Int32} {H : Heap} {locs : List Loc} {ls : Array Slot} (hf : f_sign_0  I A = some o) (hM : mH D cy ci h A0 s H locs I A) (hl : lv_has ls 1 [(0, .ref (h 0))]) : W p l e ({ frames := 0, cells := 0, slots := 0, locals := 0 } : Room) s m args below meth c H locs 0 0 Q (F0 m 0 ls []) := by
  obtain ⟨hx, hb, hml, hown, hts⟩ := id X
  unfold f_sign_0 at hf
  refine lv_aload_n hx hb dX12_sign_0 rfl (lv_at hl 0 rfl) ?_
  refine m_get (v := .int (I 38)) X hw_sign hM 38 (by decide) fl_sign_38 rfl dX12_sign_1 ?_
  refine lv_aload_n hx hb dX12_sign_4 rfl (lv_at hl 0 rfl) ?_
  refine m_get (v := .int (I 39)) X hw_sign hM 39 (by decide) fl_sign_39 rfl dX12_sign_5 ?_
  refine lv_icmp_ge (tgt := 23) hx hb dX12_sign_8 (by decide) (fun cc1 => ?_) (fun cc1 => ?_)
  · replace hf := m_ifT hf cc1
    refine lv_iconst (v := (0 : Int32)) hx hb dX12_sign_23 (by decide) ?_
    exact w_sign_24 X hret hf hM (lv_sub hl [] rfl)
  · replace hf := m_ifF hf cc1
    refine lv_aload_n hx hb dX12_sign_11 rfl (lv_at hl 0 rfl) ?_
    refine m_get (v := .ref (h 22)) X hw_sign hM 22 (by decide) fl_sign_22 rfl dX12_sign_12 ?_
    refine lv_aload_n hx hb dX12_sign_15 rfl (lv_at hl 0 rfl) ?_
    refine m_get (v := .int (I 38)) X hw_sign hM 38 (by decide) fl_sign_38 rfl dX12_sign_16 ?_
    obtain ⟨cd, hf⟩ := m_chkE hf
    refine m_cald X hM 22 18 1536 rfl cd dX12_sign_19 ?_
    clear cd
    obtain ⟨v1, ev, hf⟩ := m_bndE hf
    refine m_top ev ?_
    clear ev
    refine lv_goto (tgt := 24) hx hb dX12_sign_20 (by decide) ?_
    exact w_sign_24 X hret hf hM (lv_sub hl [] rfl)
noncomputable def f_sign (I : Nat → Int32) (A : Nat → Nat → Int32) : Option (Int32 × MS) := f_sign_0  I A
theorem c_sign {l : Launch} {D : va_G} {cy ci : ClassId} {h : Nat → Nat} {I : Nat → Int32} {A : Nat → Nat → Int32} {o : Int32 × MS} (hf : f_sign  I A = some o) : mMi l yX12_sign wsX12_sign ({ frames := 0, cells := 0, slots := 0, locals := 0 } : Room) [.ref (h 0)] D cy ci h I A o :=
  m_entryI (cc := cX12_sign) (maxL := 1) (by decide) rfl rfl (Nat.le_of_ble_eq_true rfl) (fun p e s m args below meth c A0 Q H locs ls X hret hM hl => w_sign_0 X hret hf hM (lv_sub hl [0] rfl))
theorem hw_pass : ∀ w ∈ wsX120, w ∈ wsX12_pass := by decide +kernel
theorem fl_pass_38 : Cond.fieldLink RX12 229 "MoveTextsModel" "valueAt" "I" ∈ wsX12_pass := by decide +kernel
theorem hd_pass : yX12_pass.cls = RX12 ∧ yX12_pass.cls ≠ "java/lang/invoke/MethodHandle" ∧ yX12_pass.cls ≠ "java/lang/invoke/VarHandle" ∧ (parseMethodDescriptor yX12_pass.desc).map (fun d => d.parameters.length) = some 1 := by decide +kernel
noncomputable def f_pass_13 (t0 : Int32) (I : Nat → Int32) (A : Nat → Nat → Int32) : Option (Int32 × MS) :=
  m_bnd ((I 38) + (1 : Int32)) (fun v1 =>
  m_bnd (upd I 38 v1) (fun I2 =>
  m_chk (vp_nar .boolean t0 = t0) (some (t0, (I2, A)))))

set_option maxRecDepth 100000 in
set_option maxHeartbeats 4000000 in
theorem w_pass_13 {p : Program} {l : Launch} {e : Env} {s : State} {m : MethodId} {args : Array Value} {below : List Frame} {meth : Method} {c : Code} {Q : State → Prop} {D : va_G} {cy ci : ClassId} {h : Nat → Nat} {A0 : Nat → Prop} {o : Int32 × MS} (X : CallFix p m c cX12_pass 3 s args wsX12_pass RX12) (hret : mRi p l e ({ frames := 1, cells := 0, slots := 0, locals := 20 } : Room) s m args below meth c Q cX12_pass D cy ci h A0 .boolean o) {t0 : Int32} {I : Nat → Int32} {A : Nat → Nat → Int32} {H : Heap} {locs : List Loc} {ls : Array Slot} (hf : f_pass_13 t0 I A = some o) (hM : mH D cy ci h A0 s H locs I A) (hl : lv_has ls 3 [(0, .ref (h 0))]) : W p l e ({ frames := 1, cells := 0, slots := 0, locals := 20 } : Room) s m args below meth c H locs 0 0 Q (F0 m 13 ls [.int t0]) := by
  obtain ⟨hx, hb, hml, hown, hts⟩ := id X
  unfold f_pass_13 at hf
  refine lv_istore_n (lv' := [(2, .int t0), (0, .ref (h 0))]) hx hb dX12_pass_13 rfl hl (by decide) rfl (fun ls hl => ?_)
  refine lv_aload_n hx hb dX12_pass_14 rfl (lv_at hl 1 rfl) ?_
  refine lv_dup hx hb dX12_pass_15 rfl ?_
  refine m_get (v := .int (I 38)) X hw_pass hM 38 (by decide) fl_pass_38 rfl dX12_pass_16 ?_
  refine lv_iconst (v := (1 : Int32)) hx hb dX12_pass_19 (by decide) ?_
  refine lv_iadd hx hb dX12_pass_20 ?_
  obtain ⟨v1, ev, hf⟩ := m_bndE hf
  refine m_top ev ?_
  clear ev
  refine m_put X hw_pass hM 38 (by decide) fl_pass_38 mi_38 rfl (tyX12_ok 38 (by decide)) dX12_pass_21 (fun H locs hM => ?_)
  obtain ⟨I2, ev, hf⟩ := m_bndE hf
  replace hM := m_hI hM ev
  clear ev
  refine lv_iload_n hx hb dX12_pass_24 rfl (lv_at hl 0 rfl) ?_
  obtain ⟨cd, hf⟩ := m_chkE hf
  cases hf
  exact hret H locs _ ls hM (m_nb cd) dX12_pass_25
noncomputable def f_pass_0 (x1 : Int32) (I : Nat → Int32) (A : Nat → Nat → Int32) : Option (Int32 × MS) :=
  m_cl (f_sign  I A) (fun r1 Ic1 Ac1 =>
  m_if (r1 = x1) (
  f_pass_13 (1 : Int32) Ic1 Ac1
  ) (
  f_pass_13 (0 : Int32) Ic1 Ac1
  ))

set_option maxRecDepth 100000 in
set_option maxHeartbeats 4000000 in
theorem w_pass_0 {p : Program} {l : Launch} {e : Env} {s : State} {m : MethodId} {args : Array Value} {below : List Frame} {meth : Method} {c : Code} {Q : State → Prop} {D : va_G} {cy ci : ClassId} {h : Nat → Nat} {A0 : Nat → Prop} {o : Int32 × MS} (X : CallFix p m c cX12_pass 3 s args wsX12_pass RX12) (hret : mRi p l e ({ frames := 1, cells := 0, slots := 0, locals := 20 } : Room) s m args below meth c Q cX12_pass D cy ci h A0 .boolean o) {x1 : Int32} {I : Nat → Int32} {A : Nat → Nat → Int32} {H : Heap} {locs : List Loc} {ls : Array Slot} (hf : f_pass_0 x1 I A = some o) (hM : mH D cy ci h A0 s H locs I A) (hl : lv_has ls 3 [(0, .ref (h 0)), (1, .int x1)]) : W p l e ({ frames := 1, cells := 0, slots := 0, locals := 20 } : Room) s m args below meth c H locs 0 0 Q (F0 m 0 ls []) := by
  obtain ⟨hx, hb, hml, hown, hts⟩ := id X
  unfold f_pass_0 at hf
  refine lv_aload_n hx hb dX12_pass_0 rfl (lv_at hl 0 rfl) ?_
  obtain ⟨o1, ho, hf⟩ := m_clE hf
  refine m_callVi X hM (c_sign ho) gX12_pass_X12_sign rfl ⟨rfl, rfl⟩ hd_sign ⟨Nat.le_of_ble_eq_true rfl, Nat.le_of_ble_eq_true rfl⟩ rfl hl.1 rfl (Nat.le_of_ble_eq_true rfl) dX12_pass_1 (fun H locs hM => ?_)
  clear ho
  refine lv_iload_n hx hb dX12_pass_4 rfl (lv_at hl 1 rfl) ?_
  refine lv_icmp_ne (tgt := 12) hx hb dX12_pass_5 (by decide) (fun cc1 => ?_) (fun cc1 => ?_)
  · replace hf := m_ifF hf cc1
    refine lv_iconst (v := (0 : Int32)) hx hb dX12_pass_12 (by decide) ?_
    exact w_pass_13 X hret hf hM (lv_sub hl [0] rfl)
  · replace hf := m_ifT hf cc1
    refine lv_iconst (v := (1 : Int32)) hx hb dX12_pass_8 (by decide) ?_
    refine lv_goto (tgt := 13) hx hb dX12_pass_9 (by decide) ?_
    exact w_pass_13 X hret hf hM (lv_sub hl [0] rfl)
noncomputable def f_pass (x1 : Int32) (I : Nat → Int32) (A : Nat → Nat → Int32) : Option (Int32 × MS) := f_pass_0 x1 I A
theorem c_pass {l : Launch} {D : va_G} {cy ci : ClassId} {h : Nat → Nat} {x1 : Int32} {I : Nat → Int32} {A : Nat → Nat → Int32} {o : Int32 × MS} (hf : f_pass x1 I A = some o) : mMi l yX12_pass wsX12_pass ({ frames := 1, cells := 0, slots := 0, locals := 20 } : Room) [.ref (h 0), .int x1] D cy ci h I A o :=
  m_entryI (cc := cX12_pass) (maxL := 3) (by decide) rfl rfl (Nat.le_of_ble_eq_true rfl) (fun p e s m args below meth c A0 Q H locs ls X hret hM hl => w_pass_0 X hret hf hM (lv_sub hl [0, 1] rfl))
theorem hd_manOf : yX12_manOf.cls ≠ "java/lang/invoke/MethodHandle" ∧ yX12_manOf.cls ≠ "java/lang/invoke/VarHandle" ∧ (parseMethodDescriptor yX12_manOf.desc).map (fun d => d.parameters.length) = some 1 := by decide +kernel
noncomputable def f_manOf_135 (rec : Int32 → (Nat → Int32) → (Nat → Nat → Int32) → Option (Int32 × MS)) (t0 : Int32) (I : Nat → Int32) (A : Nat → Nat → Int32) : Option (Int32 × MS) :=
  some (t0, (I, A))

set_option maxRecDepth 100000 in
set_option maxHeartbeats 4000000 in
theorem w_manOf_135 {p : Program} {l : Launch} {e : Env} {s : State} {m : MethodId} {args : Array Value} {below : List Frame} {meth : Method} {c : Code} {Q : State → Prop} {D : va_G} {cy ci : ClassId} {h : Nat → Nat} {A0 : Nat → Prop} {o : Int32 × MS} {R Rr : Room} (hR0 : 0 ≤ R.frames ∧ 0 ≤ R.locals) (hR1 : Rr.cells = 0 ∧ Rr.slots = 0) (hR2 : Rr.frames + 1 ≤ R.frames ∧ 8 + (1 + 11) + Rr.locals ≤ R.locals) {rec : Int32 → (Nat → Int32) → (Nat → Nat → Int32) → Option (Int32 × MS)} (hrec : ∀ (x0 : Int32) (I : Nat → Int32) (A : Nat → Nat → Int32) (o9 : Int32 × MS), rec x0 I A = some o9 → mMi l yX12_manOf wsX12_manOf Rr [.int x0] D cy ci h I A o9) (X : CallFix p m c cX12_manOf 1 s args wsX12_manOf RX12) (hret : mRi p l e R s m args below meth c Q cX12_manOf D cy ci h A0 .int o) {t0 : Int32} {I : Nat → Int32} {A : Nat → Nat → Int32} {H : Heap} {locs : List Loc} {ls : Array Slot} (hf : f_manOf_135 rec t0 I A = some o) (hM : mH D cy ci h A0 s H locs I A) (hl : lv_has ls 1 []) : W p l e R s m args below meth c H locs 0 0 Q (F0 m 135 ls [.int t0]) := by
  obtain ⟨hx, hb, hml, hown, hts⟩ := id X
  unfold f_manOf_135 at hf
  cases hf
  exact hret H locs _ ls hM rfl dX12_manOf_135
noncomputable def f_manOf_134 (rec : Int32 → (Nat → Int32) → (Nat → Nat → Int32) → Option (Int32 × MS)) (I : Nat → Int32) (A : Nat → Nat → Int32) : Option (Int32 × MS) :=
  f_manOf_135 rec (0 : Int32) I A

set_option maxRecDepth 100000 in
set_option maxHeartbeats 4000000 in
theorem w_manOf_134 {p : Program} {l : Launch} {e : Env} {s : State} {m : MethodId} {args : Array Value} {below : List Frame} {meth : Method} {c : Code} {Q : State → Prop} {D : va_G} {cy ci : ClassId} {h : Nat → Nat} {A0 : Nat → Prop} {o : Int32 × MS} {R Rr : Room} (hR0 : 0 ≤ R.frames ∧ 0 ≤ R.locals) (hR1 : Rr.cells = 0 ∧ Rr.slots = 0) (hR2 : Rr.frames + 1 ≤ R.frames ∧ 8 + (1 + 11) + Rr.locals ≤ R.locals) {rec : Int32 → (Nat → Int32) → (Nat → Nat → Int32) → Option (Int32 × MS)} (hrec : ∀ (x0 : Int32) (I : Nat → Int32) (A : Nat → Nat → Int32) (o9 : Int32 × MS), rec x0 I A = some o9 → mMi l yX12_manOf wsX12_manOf Rr [.int x0] D cy ci h I A o9) (X : CallFix p m c cX12_manOf 1 s args wsX12_manOf RX12) (hret : mRi p l e R s m args below meth c Q cX12_manOf D cy ci h A0 .int o) {I : Nat → Int32} {A : Nat → Nat → Int32} {H : Heap} {locs : List Loc} {ls : Array Slot} (hf : f_manOf_134 rec  I A = some o) (hM : mH D cy ci h A0 s H locs I A) (hl : lv_has ls 1 []) : W p l e R s m args below meth c H locs 0 0 Q (F0 m 134 ls []) := by
  obtain ⟨hx, hb, hml, hown, hts⟩ := id X
  unfold f_manOf_134 at hf
  refine lv_iconst (v := (0 : Int32)) hx hb dX12_manOf_134 (by decide) ?_
  exact w_manOf_135 hR0 hR1 hR2 hrec X hret hf hM (lv_sub hl [] rfl)
noncomputable def f_manOf_0 (rec : Int32 → (Nat → Int32) → (Nat → Nat → Int32) → Option (Int32 × MS)) (x0 : Int32) (I : Nat → Int32) (A : Nat → Nat → Int32) : Option (Int32 × MS) :=
  m_if (x0 = (66 : Int32)) (
  some ((3 : Int32), (I, A))
  ) (
  m_if (x0 = (75 : Int32)) (
  some ((6 : Int32), (I, A))
  ) (
  m_if (x0 = (78 : Int32)) (
  some ((2 : Int32), (I, A))
  ) (
  m_if (x0 = (80 : Int32)) (
  some ((1 : Int32), (I, A))
  ) (
  m_if (x0 = (81 : Int32)) (
  some ((5 : Int32), (I, A))
  ) (
  m_if (x0 = (82 : Int32)) (
  some ((4 : Int32), (I, A))
  ) (
  m_if (x0 < (97 : Int32)) (
  f_manOf_134 rec  I A
  ) (
  m_if ((122 : Int32) < x0) (
  f_manOf_134 rec  I A
  ) (
  m_bnd (x0 - (32 : Int32)) (fun v1 =>
  m_bnd ((v1.toUInt32 % 65536).toInt32) (fun v2 =>
  m_cl (rec v2 I A) (fun r3 Ic3 Ac3 =>
  m_if (r3 ≤ 0) (
  f_manOf_134 rec  Ic3 Ac3
  ) (
  m_bnd (x0 - (32 : Int32)) (fun v4 =>
  m_bnd ((v4.toUInt32 % 65536).toInt32) (fun v5 =>
  m_cl (rec v5 Ic3 Ac3) (fun r6 Ic6 Ac6 =>
  m_bnd (r6 + (8 : Int32)) (fun v7 =>
  f_manOf_135 rec v7 Ic6 Ac6))))
  ))))
  )
  )
  ))))))

set_option maxRecDepth 100000 in
set_option maxHeartbeats 4000000 in
theorem w_manOf_0 {p : Program} {l : Launch} {e : Env} {s : State} {m : MethodId} {args : Array Value} {below : List Frame} {meth : Method} {c : Code} {Q : State → Prop} {D : va_G} {cy ci : ClassId} {h : Nat → Nat} {A0 : Nat → Prop} {o : Int32 × MS} {R Rr : Room} (hR0 : 0 ≤ R.frames ∧ 0 ≤ R.locals) (hR1 : Rr.cells = 0 ∧ Rr.slots = 0) (hR2 : Rr.frames + 1 ≤ R.frames ∧ 8 + (1 + 11) + Rr.locals ≤ R.locals) {rec : Int32 → (Nat → Int32) → (Nat → Nat → Int32) → Option (Int32 × MS)} (hrec : ∀ (x0 : Int32) (I : Nat → Int32) (A : Nat → Nat → Int32) (o9 : Int32 × MS), rec x0 I A = some o9 → mMi l yX12_manOf wsX12_manOf Rr [.int x0] D cy ci h I A o9) (X : CallFix p m c cX12_manOf 1 s args wsX12_manOf RX12) (hret : mRi p l e R s m args below meth c Q cX12_manOf D cy ci h A0 .int o) {x0 : Int32} {I : Nat → Int32} {A : Nat → Nat → Int32} {H : Heap} {locs : List Loc} {ls : Array Slot} (hf : f_manOf_0 rec x0 I A = some o) (hM : mH D cy ci h A0 s H locs I A) (hl : lv_has ls 1 [(0, .int x0)]) : W p l e R s m args below meth c H locs 0 0 Q (F0 m 0 ls []) := by
  obtain ⟨hx, hb, hml, hown, hts⟩ := id X
  unfold f_manOf_0 at hf
  refine lv_iload_n hx hb dX12_manOf_0 rfl (lv_at hl 0 rfl) ?_
  by_cases ck0 : x0 = (66 : Int32)
  · replace hf := m_ifT hf ck0
    refine lv_tableIn (off := 87) (tgt := 88) hx hb dX12_manOf_1 (by rw [ck0]; decide) (by rw [ck0]; decide) (by rw [ck0]; decide) (by decide) ?_
    refine lv_iconst (v := (3 : Int32)) hx hb dX12_manOf_88 (by decide) ?_
    cases hf
    exact hret H locs _ ls hM rfl dX12_manOf_89
  · replace hf := m_ifF hf ck0
    by_cases ck1 : x0 = (75 : Int32)
    · replace hf := m_ifT hf ck1
      refine lv_tableIn (off := 93) (tgt := 94) hx hb dX12_manOf_1 (by rw [ck1]; decide) (by rw [ck1]; decide) (by rw [ck1]; decide) (by decide) ?_
      refine lv_bipush (v := (6 : Int32)) hx hb dX12_manOf_94 (by decide) ?_
      cases hf
      exact hret H locs _ ls hM rfl dX12_manOf_96
    · replace hf := m_ifF hf ck1
      by_cases ck2 : x0 = (78 : Int32)
      · replace hf := m_ifT hf ck2
        refine lv_tableIn (off := 85) (tgt := 86) hx hb dX12_manOf_1 (by rw [ck2]; decide) (by rw [ck2]; decide) (by rw [ck2]; decide) (by decide) ?_
        refine lv_iconst (v := (2 : Int32)) hx hb dX12_manOf_86 (by decide) ?_
        cases hf
        exact hret H locs _ ls hM rfl dX12_manOf_87
      · replace hf := m_ifF hf ck2
        by_cases ck3 : x0 = (80 : Int32)
        · replace hf := m_ifT hf ck3
          refine lv_tableIn (off := 83) (tgt := 84) hx hb dX12_manOf_1 (by rw [ck3]; decide) (by rw [ck3]; decide) (by rw [ck3]; decide) (by decide) ?_
          refine lv_iconst (v := (1 : Int32)) hx hb dX12_manOf_84 (by decide) ?_
          cases hf
          exact hret H locs _ ls hM rfl dX12_manOf_85
        · replace hf := m_ifF hf ck3
          by_cases ck4 : x0 = (81 : Int32)
          · replace hf := m_ifT hf ck4
            refine lv_tableIn (off := 91) (tgt := 92) hx hb dX12_manOf_1 (by rw [ck4]; decide) (by rw [ck4]; decide) (by rw [ck4]; decide) (by decide) ?_
            refine lv_iconst (v := (5 : Int32)) hx hb dX12_manOf_92 (by decide) ?_
            cases hf
            exact hret H locs _ ls hM rfl dX12_manOf_93
          · replace hf := m_ifF hf ck4
            by_cases ck5 : x0 = (82 : Int32)
            · replace hf := m_ifT hf ck5
              refine lv_tableIn (off := 89) (tgt := 90) hx hb dX12_manOf_1 (by rw [ck5]; decide) (by rw [ck5]; decide) (by rw [ck5]; decide) (by decide) ?_
              refine lv_iconst (v := (4 : Int32)) hx hb dX12_manOf_90 (by decide) ?_
              cases hf
              exact hret H locs _ ls hM rfl dX12_manOf_91
            · replace hf := m_ifF hf ck5
              refine m_tabD (tgt := 97) [(66 : Int32), (75 : Int32), (78 : Int32), (80 : Int32), (81 : Int32), (82 : Int32)] hx hb dX12_manOf_1 (by decide) (by decide) (List.forall_mem_cons.mpr ⟨ck0, List.forall_mem_cons.mpr ⟨ck1, List.forall_mem_cons.mpr ⟨ck2, List.forall_mem_cons.mpr ⟨ck3, List.forall_mem_cons.mpr ⟨ck4, List.forall_mem_cons.mpr ⟨ck5, fun _ h9 => absurd h9 List.not_mem_nil⟩⟩⟩⟩⟩⟩) (by decide) ?_
              refine lv_iload_n hx hb dX12_manOf_97 rfl (lv_at hl 0 rfl) ?_
              refine lv_bipush (v := (97 : Int32)) hx hb dX12_manOf_98 (by decide) ?_
              refine lv_icmp_lt (tgt := 134) hx hb dX12_manOf_100 (by decide) (fun cc1 => ?_) (fun cc1 => ?_)
              · replace hf := m_ifT hf cc1
                exact w_manOf_134 hR0 hR1 hR2 hrec X hret hf hM (lv_sub hl [] rfl)
              · replace hf := m_ifF hf cc1
                refine lv_iload_n hx hb dX12_manOf_103 rfl (lv_at hl 0 rfl) ?_
                refine lv_bipush (v := (122 : Int32)) hx hb dX12_manOf_104 (by decide) ?_
                refine lv_icmp_gt (tgt := 134) hx hb dX12_manOf_106 (by decide) (fun cc1 => ?_) (fun cc1 => ?_)
                · replace hf := m_ifT hf cc1
                  exact w_manOf_134 hR0 hR1 hR2 hrec X hret hf hM (lv_sub hl [] rfl)
                · replace hf := m_ifF hf cc1
                  refine lv_iload_n hx hb dX12_manOf_109 rfl (lv_at hl 0 rfl) ?_
                  refine lv_bipush (v := (32 : Int32)) hx hb dX12_manOf_110 (by decide) ?_
                  refine lv_isub hx hb dX12_manOf_112 ?_
                  obtain ⟨v1, ev, hf⟩ := m_bndE hf
                  refine m_top ev ?_
                  clear ev
                  refine lv_i2c (v := (v1.toUInt32 % 65536).toInt32) hx hb dX12_manOf_113 rfl ?_
                  obtain ⟨v2, ev, hf⟩ := m_bndE hf
                  refine m_top ev ?_
                  clear ev
                  obtain ⟨o3, ho, hf⟩ := m_clE hf
                  refine m_callSi X hM (hrec _ _ _ _ ho) gX12_manOf_X12_manOf rfl hR1 hd_manOf hR2 rfl hl.1 rfl (Nat.le_of_ble_eq_true rfl) dX12_manOf_114 (fun H locs hM => ?_)
                  clear ho
                  refine lv_if_le (tgt := 134) hx hb dX12_manOf_117 (by decide) (fun cc1 => ?_) (fun cc1 => ?_)
                  · replace hf := m_ifT hf cc1
                    exact w_manOf_134 hR0 hR1 hR2 hrec X hret hf hM (lv_sub hl [] rfl)
                  · replace hf := m_ifF hf cc1
                    refine lv_iload_n hx hb dX12_manOf_120 rfl (lv_at hl 0 rfl) ?_
                    refine lv_bipush (v := (32 : Int32)) hx hb dX12_manOf_121 (by decide) ?_
                    refine lv_isub hx hb dX12_manOf_123 ?_
                    obtain ⟨v4, ev, hf⟩ := m_bndE hf
                    refine m_top ev ?_
                    clear ev
                    refine lv_i2c (v := (v4.toUInt32 % 65536).toInt32) hx hb dX12_manOf_124 rfl ?_
                    obtain ⟨v5, ev, hf⟩ := m_bndE hf
                    refine m_top ev ?_
                    clear ev
                    obtain ⟨o6, ho, hf⟩ := m_clE hf
                    refine m_callSi X hM (hrec _ _ _ _ ho) gX12_manOf_X12_manOf rfl hR1 hd_manOf hR2 rfl hl.1 rfl (Nat.le_of_ble_eq_true rfl) dX12_manOf_125 (fun H locs hM => ?_)
                    clear ho
                    refine lv_bipush (v := (8 : Int32)) hx hb dX12_manOf_128 (by decide) ?_
                    refine lv_iadd hx hb dX12_manOf_130 ?_
                    obtain ⟨v7, ev, hf⟩ := m_bndE hf
                    refine m_top ev ?_
                    clear ev
                    refine lv_goto (tgt := 135) hx hb dX12_manOf_131 (by decide) ?_
                    exact w_manOf_135 hR0 hR1 hR2 hrec X hret hf hM (lv_sub hl [] rfl)
noncomputable def fr_manOf : Nat → Int32 → (Nat → Int32) → (Nat → Nat → Int32) → Option (Int32 × MS)
  | 0 => fun _ _ _ => none
  | n + 1 => fun x0 I A => f_manOf_0 (fr_manOf n) x0 I A
noncomputable abbrev rr_manOf (n : Nat) : Room := { frames := 0 + n, cells := 0, slots := 0, locals := 0 + n * 20 }
theorem cr_manOf {l : Launch} {D : va_G} {cy ci : ClassId} {h : Nat → Nat} (n : Nat) : ∀ (x0 : Int32) (I : Nat → Int32) (A : Nat → Nat → Int32) (o : Int32 × MS), fr_manOf n x0 I A = some o → mMi l yX12_manOf wsX12_manOf (rr_manOf n) [.int x0] D cy ci h I A o := by
  induction n with
  | zero => intro x0 I A o hf; cases hf
  | succ n ih =>
    intro x0 I A o hf
    exact m_entryI (cc := cX12_manOf) (maxL := 1) (by decide) rfl rfl (Nat.le_of_ble_eq_true rfl) (fun p e s m args below meth c A0 Q H locs ls X hret hM hl => w_manOf_0 ⟨by show 0 ≤ 0 + (n + 1); omega, by show 0 ≤ 0 + (n + 1) * 20; omega⟩ ⟨rfl, rfl⟩ ⟨by show 0 + n + 1 ≤ 0 + (n + 1); omega, by show 8 + (1 + 11) + (0 + n * 20) ≤ 0 + (n + 1) * 20; omega⟩ ih X hret hf hM (lv_sub hl [0] rfl))
noncomputable def f_manOf (x0 : Int32) (I : Nat → Int32) (A : Nat → Nat → Int32) : Option (Int32 × MS) := fr_manOf 3 x0 I A
theorem c_manOf {l : Launch} {D : va_G} {cy ci : ClassId} {h : Nat → Nat} {x0 : Int32} {I : Nat → Int32} {A : Nat → Nat → Int32} {o : Int32 × MS} (hf : f_manOf x0 I A = some o) : mMi l yX12_manOf wsX12_manOf ({ frames := 3, cells := 0, slots := 0, locals := 60 } : Room) [.int x0] D cy ci h I A o := cr_manOf 3 x0 I A o hf
theorem hw_readRank : ∀ w ∈ wsX120, w ∈ wsX12_readRank := by decide +kernel
theorem fl_readRank_24 : Cond.fieldLink RX12 70 "MoveTextsModel" "men" "[I" ∈ wsX12_readRank := by decide +kernel
theorem fl_readRank_38 : Cond.fieldLink RX12 229 "MoveTextsModel" "valueAt" "I" ∈ wsX12_readRank := by decide +kernel
theorem hd_readRank : yX12_readRank.cls = RX12 ∧ yX12_readRank.cls ≠ "java/lang/invoke/MethodHandle" ∧ yX12_readRank.cls ≠ "java/lang/invoke/VarHandle" ∧ (parseMethodDescriptor yX12_readRank.desc).map (fun d => d.parameters.length) = some 1 := by decide +kernel
noncomputable def f_readRank_106 (t0 : Int32) (I : Nat → Int32) (A : Nat → Nat → Int32) : Option (Int32 × MS) :=
  m_chk (vp_nar .boolean t0 = t0) (some (t0, (I, A)))

set_option maxRecDepth 100000 in
set_option maxHeartbeats 4000000 in
theorem w_readRank_106 {p : Program} {l : Launch} {e : Env} {s : State} {m : MethodId} {args : Array Value} {below : List Frame} {meth : Method} {c : Code} {Q : State → Prop} {D : va_G} {cy ci : ClassId} {h : Nat → Nat} {A0 : Nat → Prop} {o : Int32 × MS} (X : CallFix p m c cX12_readRank 6 s args wsX12_readRank RX12) (hret : mRi p l e ({ frames := 4, cells := 0, slots := 0, locals := 80 } : Room) s m args below meth c Q cX12_readRank D cy ci h A0 .boolean o) {t0 : Int32} {I : Nat → Int32} {A : Nat → Nat → Int32} {H : Heap} {locs : List Loc} {ls : Array Slot} (hf : f_readRank_106 t0 I A = some o) (hM : mH D cy ci h A0 s H locs I A) (hl : lv_has ls 6 []) : W p l e ({ frames := 4, cells := 0, slots := 0, locals := 80 } : Room) s m args below meth c H locs 0 0 Q (F0 m 106 ls [.int t0]) := by
  obtain ⟨hx, hb, hml, hown, hts⟩ := id X
  unfold f_readRank_106 at hf
  obtain ⟨cd, hf⟩ := m_chkE hf
  cases hf
  exact hret H locs _ ls hM (m_nb cd) dX12_readRank_106
noncomputable def f_readRank_82 (self4 : Int32 → Int32 → Int32 → (Nat → Int32) → (Nat → Nat → Int32) → Option (Int32 × MS)) (x1 : Int32) (x2 : Int32) (x3 : Int32) (I : Nat → Int32) (A : Nat → Nat → Int32) : Option (Int32 × MS) :=
  m_bnd ((I 38) + (1 : Int32)) (fun v1 =>
  m_bnd (upd I 38 v1) (fun I2 =>
  self4 x1 x2 x3 I2 A))

set_option maxRecDepth 100000 in
set_option maxHeartbeats 4000000 in
theorem w_readRank_82 {p : Program} {l : Launch} {e : Env} {s : State} {m : MethodId} {args : Array Value} {below : List Frame} {meth : Method} {c : Code} {Q : State → Prop} {D : va_G} {cy ci : ClassId} {h : Nat → Nat} {A0 : Nat → Prop} {o : Int32 × MS} (X : CallFix p m c cX12_readRank 6 s args wsX12_readRank RX12) (hret : mRi p l e ({ frames := 4, cells := 0, slots := 0, locals := 80 } : Room) s m args below meth c Q cX12_readRank D cy ci h A0 .boolean o) {self4 : Int32 → Int32 → Int32 → (Nat → Int32) → (Nat → Nat → Int32) → Option (Int32 × MS)} (hself4 : ∀ (x1 : Int32) (x2 : Int32) (x3 : Int32) (I : Nat → Int32) (A : Nat → Nat → Int32) (H : Heap) (locs : List Loc) (ls : Array Slot), self4 x1 x2 x3 I A = some o → mH D cy ci h A0 s H locs I A → lv_has ls 6 [(0, .ref (h 0)), (1, .int x1), (2, .int x2), (3, .int x3)] → W p l e ({ frames := 4, cells := 0, slots := 0, locals := 80 } : Room) s m args below meth c H locs 0 0 Q (F0 m 4 ls [])) {x1 : Int32} {x2 : Int32} {x3 : Int32} {I : Nat → Int32} {A : Nat → Nat → Int32} {H : Heap} {locs : List Loc} {ls : Array Slot} (hf : f_readRank_82 self4 x1 x2 x3 I A = some o) (hM : mH D cy ci h A0 s H locs I A) (hl : lv_has ls 6 [(0, .ref (h 0)), (1, .int x1), (2, .int x2), (3, .int x3)]) : W p l e ({ frames := 4, cells := 0, slots := 0, locals := 80 } : Room) s m args below meth c H locs 0 0 Q (F0 m 82 ls []) := by
  obtain ⟨hx, hb, hml, hown, hts⟩ := id X
  unfold f_readRank_82 at hf
  refine lv_aload_n hx hb dX12_readRank_82 rfl (lv_at hl 0 rfl) ?_
  refine lv_dup hx hb dX12_readRank_83 rfl ?_
  refine m_get (v := .int (I 38)) X hw_readRank hM 38 (by decide) fl_readRank_38 rfl dX12_readRank_84 ?_
  refine lv_iconst (v := (1 : Int32)) hx hb dX12_readRank_87 (by decide) ?_
  refine lv_iadd hx hb dX12_readRank_88 ?_
  obtain ⟨v1, ev, hf⟩ := m_bndE hf
  refine m_top ev ?_
  clear ev
  refine m_put X hw_readRank hM 38 (by decide) fl_readRank_38 mi_38 rfl (tyX12_ok 38 (by decide)) dX12_readRank_89 (fun H locs hM => ?_)
  obtain ⟨I2, ev, hf⟩ := m_bndE hf
  replace hM := m_hI hM ev
  clear ev
  refine lv_goto (tgt := 4) hx hb dX12_readRank_92 (by decide) ?_
  exact hself4 _ _ _ _ _ _ _ _ hf hM (lv_sub hl [0, 1, 2, 3] rfl)
noncomputable def f_readRank_54 (self4 : Int32 → Int32 → Int32 → (Nat → Int32) → (Nat → Nat → Int32) → Option (Int32 × MS)) (x1 : Int32) (x2 : Int32) (x5 : Int32) (I : Nat → Int32) (A : Nat → Nat → Int32) : Option (Int32 × MS) :=
  m_if (x5 ≤ 0) (
  m_chk (vp_nar .boolean (0 : Int32) = (0 : Int32)) (some ((0 : Int32), (I, A)))
  ) (
  m_bnd ((8 : Int32) * x1) (fun v1 =>
  m_bnd (v1 + x2) (fun v2 =>
  m_chk (¬ (v2 < 0 ∨ 64 ≤ (v2).toNatClampNeg)) (
  m_bnd (va_up A 24 (upd (A 24) (v2).toNatClampNeg x5)) (fun A3 =>
  m_bnd (x2 + (1 : Int32)) (fun v4 =>
  f_readRank_82 self4 x1 v4 (0 : Int32) I A3)))))
  )

set_option maxRecDepth 100000 in
set_option maxHeartbeats 4000000 in
theorem w_readRank_54 {p : Program} {l : Launch} {e : Env} {s : State} {m : MethodId} {args : Array Value} {below : List Frame} {meth : Method} {c : Code} {Q : State → Prop} {D : va_G} {cy ci : ClassId} {h : Nat → Nat} {A0 : Nat → Prop} {o : Int32 × MS} (X : CallFix p m c cX12_readRank 6 s args wsX12_readRank RX12) (hret : mRi p l e ({ frames := 4, cells := 0, slots := 0, locals := 80 } : Room) s m args below meth c Q cX12_readRank D cy ci h A0 .boolean o) {self4 : Int32 → Int32 → Int32 → (Nat → Int32) → (Nat → Nat → Int32) → Option (Int32 × MS)} (hself4 : ∀ (x1 : Int32) (x2 : Int32) (x3 : Int32) (I : Nat → Int32) (A : Nat → Nat → Int32) (H : Heap) (locs : List Loc) (ls : Array Slot), self4 x1 x2 x3 I A = some o → mH D cy ci h A0 s H locs I A → lv_has ls 6 [(0, .ref (h 0)), (1, .int x1), (2, .int x2), (3, .int x3)] → W p l e ({ frames := 4, cells := 0, slots := 0, locals := 80 } : Room) s m args below meth c H locs 0 0 Q (F0 m 4 ls [])) {x1 : Int32} {x2 : Int32} {x5 : Int32} {I : Nat → Int32} {A : Nat → Nat → Int32} {H : Heap} {locs : List Loc} {ls : Array Slot} (hf : f_readRank_54 self4 x1 x2 x5 I A = some o) (hM : mH D cy ci h A0 s H locs I A) (hl : lv_has ls 6 [(0, .ref (h 0)), (1, .int x1), (2, .int x2), (5, .int x5)]) : W p l e ({ frames := 4, cells := 0, slots := 0, locals := 80 } : Room) s m args below meth c H locs 0 0 Q (F0 m 54 ls []) := by
  obtain ⟨hx, hb, hml, hown, hts⟩ := id X
  unfold f_readRank_54 at hf
  refine lv_iload hx hb dX12_readRank_54 (lv_at hl 3 rfl) ?_
  refine lv_if_le (tgt := 80) hx hb dX12_readRank_56 (by decide) (fun cc1 => ?_) (fun cc1 => ?_)
  · replace hf := m_ifT hf cc1
    refine lv_iconst (v := (0 : Int32)) hx hb dX12_readRank_80 (by decide) ?_
    obtain ⟨cd, hf⟩ := m_chkE hf
    cases hf
    exact hret H locs _ ls hM (m_nb cd) dX12_readRank_81
  · replace hf := m_ifF hf cc1
    refine lv_aload_n hx hb dX12_readRank_59 rfl (lv_at hl 0 rfl) ?_
    refine m_get (v := .ref (h 24)) X hw_readRank hM 24 (by decide) fl_readRank_24 rfl dX12_readRank_60 ?_
    refine lv_bipush (v := (8 : Int32)) hx hb dX12_readRank_63 (by decide) ?_
    refine lv_iload_n hx hb dX12_readRank_65 rfl (lv_at hl 1 rfl) ?_
    refine lv_imul hx hb dX12_readRank_66 ?_
    obtain ⟨v1, ev, hf⟩ := m_bndE hf
    refine m_top ev ?_
    clear ev
    refine lv_iload_n hx hb dX12_readRank_67 rfl (lv_at hl 2 rfl) ?_
    refine lv_iadd hx hb dX12_readRank_68 ?_
    obtain ⟨v2, ev, hf⟩ := m_bndE hf
    refine m_top ev ?_
    clear ev
    refine lv_iload hx hb dX12_readRank_69 (lv_at hl 3 rfl) ?_
    obtain ⟨cd, hf⟩ := m_chkE hf
    refine m_iast X hM 24 20 64 rfl ma_24 cd dX12_readRank_71 (fun H locs hM => ?_)
    clear cd
    obtain ⟨A3, ev, hf⟩ := m_bndE hf
    replace hM := m_hA hM ev
    clear ev
    obtain ⟨v4, ev, hf⟩ := m_bndE hf
    refine lv_iinc (v := v4) (lv' := [(2, .int v4), (0, .ref (h 0)), (1, .int x1), (5, .int x5)]) hx hb dX12_readRank_72 hl (k := 2) rfl (by rw [ev]; rfl) (by decide) rfl (fun ls hl => ?_)
    clear ev
    refine lv_iconst (v := (0 : Int32)) hx hb dX12_readRank_75 (by decide) ?_
    refine lv_istore_n (lv' := [(3, .int (0 : Int32)), (2, .int v4), (0, .ref (h 0)), (1, .int x1), (5, .int x5)]) hx hb dX12_readRank_76 rfl hl (by decide) rfl (fun ls hl => ?_)
    refine lv_goto (tgt := 82) hx hb dX12_readRank_77 (by decide) ?_
    exact w_readRank_82 X hret hself4 hf hM (lv_sub hl [2, 3, 1, 0] rfl)
noncomputable def f_readRank_4s (self4 : Int32 → Int32 → Int32 → (Nat → Int32) → (Nat → Nat → Int32) → Option (Int32 × MS)) (x1 : Int32) (x2 : Int32) (x3 : Int32) (I : Nat → Int32) (A : Nat → Nat → Int32) : Option (Int32 × MS) :=
  m_if ((8 : Int32) ≤ x2) (
  m_if (x2 = (8 : Int32)) (
  f_readRank_106 (1 : Int32) I A
  ) (
  f_readRank_106 (0 : Int32) I A
  )
  ) (
  m_cl (f_sign  I A) (fun r1 Ic1 Ac1 =>
  m_cl (f_manOf r1 Ic1 Ac1) (fun r2 Ic2 Ac2 =>
  m_if (r1 < (49 : Int32)) (
  f_readRank_54 self4 x1 x2 r2 Ic2 Ac2
  ) (
  m_if ((56 : Int32) < r1) (
  f_readRank_54 self4 x1 x2 r2 Ic2 Ac2
  ) (
  m_if (x3 = 0) (
  m_bnd (x2 + r1) (fun v3 =>
  m_bnd (v3 - (48 : Int32)) (fun v4 =>
  f_readRank_82 self4 x1 v4 (1 : Int32) Ic2 Ac2))
  ) (
  f_readRank_54 self4 x1 x2 r2 Ic2 Ac2
  )
  )
  )))
  )

set_option maxRecDepth 100000 in
set_option maxHeartbeats 4000000 in
theorem ws_readRank_4 {p : Program} {l : Launch} {e : Env} {s : State} {m : MethodId} {args : Array Value} {below : List Frame} {meth : Method} {c : Code} {Q : State → Prop} {D : va_G} {cy ci : ClassId} {h : Nat → Nat} {A0 : Nat → Prop} {o : Int32 × MS} (X : CallFix p m c cX12_readRank 6 s args wsX12_readRank RX12) (hret : mRi p l e ({ frames := 4, cells := 0, slots := 0, locals := 80 } : Room) s m args below meth c Q cX12_readRank D cy ci h A0 .boolean o) {self4 : Int32 → Int32 → Int32 → (Nat → Int32) → (Nat → Nat → Int32) → Option (Int32 × MS)} (hself4 : ∀ (x1 : Int32) (x2 : Int32) (x3 : Int32) (I : Nat → Int32) (A : Nat → Nat → Int32) (H : Heap) (locs : List Loc) (ls : Array Slot), self4 x1 x2 x3 I A = some o → mH D cy ci h A0 s H locs I A → lv_has ls 6 [(0, .ref (h 0)), (1, .int x1), (2, .int x2), (3, .int x3)] → W p l e ({ frames := 4, cells := 0, slots := 0, locals := 80 } : Room) s m args below meth c H locs 0 0 Q (F0 m 4 ls [])) {x1 : Int32} {x2 : Int32} {x3 : Int32} {I : Nat → Int32} {A : Nat → Nat → Int32} {H : Heap} {locs : List Loc} {ls : Array Slot} (hf : f_readRank_4s self4 x1 x2 x3 I A = some o) (hM : mH D cy ci h A0 s H locs I A) (hl : lv_has ls 6 [(0, .ref (h 0)), (1, .int x1), (2, .int x2), (3, .int x3)]) : W p l e ({ frames := 4, cells := 0, slots := 0, locals := 80 } : Room) s m args below meth c H locs 0 0 Q (F0 m 4 ls []) := by
  obtain ⟨hx, hb, hml, hown, hts⟩ := id X
  unfold f_readRank_4s at hf
  refine lv_iload_n hx hb dX12_readRank_4 rfl (lv_at hl 2 rfl) ?_
  refine lv_bipush (v := (8 : Int32)) hx hb dX12_readRank_5 (by decide) ?_
  refine lv_icmp_ge (tgt := 95) hx hb dX12_readRank_7 (by decide) (fun cc1 => ?_) (fun cc1 => ?_)
  · replace hf := m_ifT hf cc1
    refine lv_iload_n hx hb dX12_readRank_95 rfl (lv_at hl 2 rfl) ?_
    refine lv_bipush (v := (8 : Int32)) hx hb dX12_readRank_96 (by decide) ?_
    refine lv_icmp_ne (tgt := 105) hx hb dX12_readRank_98 (by decide) (fun cc1 => ?_) (fun cc1 => ?_)
    · replace hf := m_ifF hf cc1
      refine lv_iconst (v := (0 : Int32)) hx hb dX12_readRank_105 (by decide) ?_
      exact w_readRank_106 X hret hf hM (lv_sub hl [] rfl)
    · replace hf := m_ifT hf cc1
      refine lv_iconst (v := (1 : Int32)) hx hb dX12_readRank_101 (by decide) ?_
      refine lv_goto (tgt := 106) hx hb dX12_readRank_102 (by decide) ?_
      exact w_readRank_106 X hret hf hM (lv_sub hl [] rfl)
  · replace hf := m_ifF hf cc1
    refine lv_aload_n hx hb dX12_readRank_10 rfl (lv_at hl 0 rfl) ?_
    obtain ⟨o1, ho, hf⟩ := m_clE hf
    refine m_callVi X hM (c_sign ho) gX12_readRank_X12_sign rfl ⟨rfl, rfl⟩ hd_sign ⟨Nat.le_of_ble_eq_true rfl, Nat.le_of_ble_eq_true rfl⟩ rfl hl.1 rfl (Nat.le_of_ble_eq_true rfl) dX12_readRank_11 (fun H locs hM => ?_)
    clear ho
    refine lv_istore (lv' := [(4, .int o1.1), (0, .ref (h 0)), (1, .int x1), (2, .int x2), (3, .int x3)]) hx hb dX12_readRank_14 hl (by decide) rfl (fun ls hl => ?_)
    refine lv_iload hx hb dX12_readRank_16 (lv_at hl 0 rfl) ?_
    obtain ⟨o2, ho, hf⟩ := m_clE hf
    refine m_callSi X hM (c_manOf ho) gX12_readRank_X12_manOf rfl ⟨rfl, rfl⟩ hd_manOf ⟨Nat.le_of_ble_eq_true rfl, Nat.le_of_ble_eq_true rfl⟩ rfl hl.1 rfl (Nat.le_of_ble_eq_true rfl) dX12_readRank_18 (fun H locs hM => ?_)
    clear ho
    refine lv_istore (lv' := [(5, .int o2.1), (4, .int o1.1), (0, .ref (h 0)), (1, .int x1), (2, .int x2), (3, .int x3)]) hx hb dX12_readRank_21 hl (by decide) rfl (fun ls hl => ?_)
    refine lv_iload hx hb dX12_readRank_23 (lv_at hl 1 rfl) ?_
    refine lv_bipush (v := (49 : Int32)) hx hb dX12_readRank_25 (by decide) ?_
    refine lv_icmp_lt (tgt := 54) hx hb dX12_readRank_27 (by decide) (fun cc1 => ?_) (fun cc1 => ?_)
    · replace hf := m_ifT hf cc1
      exact w_readRank_54 X hret hself4 hf hM (lv_sub hl [2, 3, 4, 0] rfl)
    · replace hf := m_ifF hf cc1
      refine lv_iload hx hb dX12_readRank_30 (lv_at hl 1 rfl) ?_
      refine lv_bipush (v := (56 : Int32)) hx hb dX12_readRank_32 (by decide) ?_
      refine lv_icmp_gt (tgt := 54) hx hb dX12_readRank_34 (by decide) (fun cc1 => ?_) (fun cc1 => ?_)
      · replace hf := m_ifT hf cc1
        exact w_readRank_54 X hret hself4 hf hM (lv_sub hl [2, 3, 4, 0] rfl)
      · replace hf := m_ifF hf cc1
        refine lv_iload_n hx hb dX12_readRank_37 rfl (lv_at hl 5 rfl) ?_
        refine lv_if_ne (tgt := 54) hx hb dX12_readRank_38 (by decide) (fun cc1 => ?_) (fun cc1 => ?_)
        · replace hf := m_ifF hf cc1
          exact w_readRank_54 X hret hself4 hf hM (lv_sub hl [2, 3, 4, 0] rfl)
        · replace hf := m_ifT hf cc1
          refine lv_iload_n hx hb dX12_readRank_41 rfl (lv_at hl 4 rfl) ?_
          refine lv_iload hx hb dX12_readRank_42 (lv_at hl 1 rfl) ?_
          refine lv_iadd hx hb dX12_readRank_44 ?_
          obtain ⟨v3, ev, hf⟩ := m_bndE hf
          refine m_top ev ?_
          clear ev
          refine lv_bipush (v := (48 : Int32)) hx hb dX12_readRank_45 (by decide) ?_
          refine lv_isub hx hb dX12_readRank_47 ?_
          obtain ⟨v4, ev, hf⟩ := m_bndE hf
          refine m_top ev ?_
          clear ev
          refine lv_istore_n (lv' := [(2, .int v4), (5, .int o2.1), (4, .int o1.1), (0, .ref (h 0)), (1, .int x1), (3, .int x3)]) hx hb dX12_readRank_48 rfl hl (by decide) rfl (fun ls hl => ?_)
          refine lv_iconst (v := (1 : Int32)) hx hb dX12_readRank_49 (by decide) ?_
          refine lv_istore_n (lv' := [(3, .int (1 : Int32)), (2, .int v4), (5, .int o2.1), (4, .int o1.1), (0, .ref (h 0)), (1, .int x1)]) hx hb dX12_readRank_50 rfl hl (by decide) rfl (fun ls hl => ?_)
          refine lv_goto (tgt := 82) hx hb dX12_readRank_51 (by decide) ?_
          exact w_readRank_82 X hret hself4 hf hM (lv_sub hl [4, 5, 1, 0] rfl)
noncomputable def f_readRank_4 : Nat → Int32 → Int32 → Int32 → (Nat → Int32) → (Nat → Nat → Int32) → Option (Int32 × MS)
  | 0 => fun _ _ _ _ _ => none
  | n + 1 => f_readRank_4s (f_readRank_4 n)
theorem w_readRank_4 {p : Program} {l : Launch} {e : Env} {s : State} {m : MethodId} {args : Array Value} {below : List Frame} {meth : Method} {c : Code} {Q : State → Prop} {D : va_G} {cy ci : ClassId} {h : Nat → Nat} {A0 : Nat → Prop} {o : Int32 × MS} (X : CallFix p m c cX12_readRank 6 s args wsX12_readRank RX12) (hret : mRi p l e ({ frames := 4, cells := 0, slots := 0, locals := 80 } : Room) s m args below meth c Q cX12_readRank D cy ci h A0 .boolean o) (n : Nat) : ∀ (x1 : Int32) (x2 : Int32) (x3 : Int32) (I : Nat → Int32) (A : Nat → Nat → Int32) (H : Heap) (locs : List Loc) (ls : Array Slot), f_readRank_4 n x1 x2 x3 I A = some o → mH D cy ci h A0 s H locs I A → lv_has ls 6 [(0, .ref (h 0)), (1, .int x1), (2, .int x2), (3, .int x3)] → W p l e ({ frames := 4, cells := 0, slots := 0, locals := 80 } : Room) s m args below meth c H locs 0 0 Q (F0 m 4 ls []) := by
  induction n with
  | zero => intro x1 x2 x3 I A H locs ls hf; cases hf
  | succ n ih => intro x1 x2 x3 I A H locs ls hf hM hl; exact ws_readRank_4 X hret (self4 := f_readRank_4 n) ih hf hM hl
noncomputable def f_readRank_0 (x1 : Int32) (I : Nat → Int32) (A : Nat → Nat → Int32) : Option (Int32 × MS) :=
  f_readRank_4 mFuel x1 (0 : Int32) (0 : Int32) I A

set_option maxRecDepth 100000 in
set_option maxHeartbeats 4000000 in
theorem w_readRank_0 {p : Program} {l : Launch} {e : Env} {s : State} {m : MethodId} {args : Array Value} {below : List Frame} {meth : Method} {c : Code} {Q : State → Prop} {D : va_G} {cy ci : ClassId} {h : Nat → Nat} {A0 : Nat → Prop} {o : Int32 × MS} (X : CallFix p m c cX12_readRank 6 s args wsX12_readRank RX12) (hret : mRi p l e ({ frames := 4, cells := 0, slots := 0, locals := 80 } : Room) s m args below meth c Q cX12_readRank D cy ci h A0 .boolean o) {x1 : Int32} {I : Nat → Int32} {A : Nat → Nat → Int32} {H : Heap} {locs : List Loc} {ls : Array Slot} (hf : f_readRank_0 x1 I A = some o) (hM : mH D cy ci h A0 s H locs I A) (hl : lv_has ls 6 [(0, .ref (h 0)), (1, .int x1)]) : W p l e ({ frames := 4, cells := 0, slots := 0, locals := 80 } : Room) s m args below meth c H locs 0 0 Q (F0 m 0 ls []) := by
  obtain ⟨hx, hb, hml, hown, hts⟩ := id X
  unfold f_readRank_0 at hf
  refine lv_iconst (v := (0 : Int32)) hx hb dX12_readRank_0 (by decide) ?_
  refine lv_istore_n (lv' := [(2, .int (0 : Int32)), (0, .ref (h 0)), (1, .int x1)]) hx hb dX12_readRank_1 rfl hl (by decide) rfl (fun ls hl => ?_)
  refine lv_iconst (v := (0 : Int32)) hx hb dX12_readRank_2 (by decide) ?_
  refine lv_istore_n (lv' := [(3, .int (0 : Int32)), (2, .int (0 : Int32)), (0, .ref (h 0)), (1, .int x1)]) hx hb dX12_readRank_3 rfl hl (by decide) rfl (fun ls hl => ?_)
  exact w_readRank_4 X hret _ _ _ _ _ _ _ _ _ hf hM (lv_sub hl [2, 3, 1, 0] rfl)
noncomputable def f_readRank (x1 : Int32) (I : Nat → Int32) (A : Nat → Nat → Int32) : Option (Int32 × MS) := f_readRank_0 x1 I A
theorem c_readRank {l : Launch} {D : va_G} {cy ci : ClassId} {h : Nat → Nat} {x1 : Int32} {I : Nat → Int32} {A : Nat → Nat → Int32} {o : Int32 × MS} (hf : f_readRank x1 I A = some o) : mMi l yX12_readRank wsX12_readRank ({ frames := 4, cells := 0, slots := 0, locals := 80 } : Room) [.ref (h 0), .int x1] D cy ci h I A o :=
  m_entryI (cc := cX12_readRank) (maxL := 6) (by decide) rfl rfl (Nat.le_of_ble_eq_true rfl) (fun p e s m args below meth c A0 Q H locs ls X hret hM hl => w_readRank_0 X hret hf hM (lv_sub hl [0, 1] rfl))
theorem hw_readNumber : ∀ w ∈ wsX120, w ∈ wsX12_readNumber := by decide +kernel
theorem fl_readNumber_38 : Cond.fieldLink RX12 229 "MoveTextsModel" "valueAt" "I" ∈ wsX12_readNumber := by decide +kernel
theorem hd_readNumber : yX12_readNumber.cls = RX12 ∧ yX12_readNumber.cls ≠ "java/lang/invoke/MethodHandle" ∧ yX12_readNumber.cls ≠ "java/lang/invoke/VarHandle" ∧ (parseMethodDescriptor yX12_readNumber.desc).map (fun d => d.parameters.length) = some 0 := by decide +kernel
noncomputable def f_readNumber_86 (t0 : Int32) (I : Nat → Int32) (A : Nat → Nat → Int32) : Option (Int32 × MS) :=
  some (t0, (I, A))

set_option maxRecDepth 100000 in
set_option maxHeartbeats 4000000 in
theorem w_readNumber_86 {p : Program} {l : Launch} {e : Env} {s : State} {m : MethodId} {args : Array Value} {below : List Frame} {meth : Method} {c : Code} {Q : State → Prop} {D : va_G} {cy ci : ClassId} {h : Nat → Nat} {A0 : Nat → Prop} {o : Int32 × MS} (X : CallFix p m c cX12_readNumber 4 s args wsX12_readNumber RX12) (hret : mRi p l e ({ frames := 1, cells := 0, slots := 0, locals := 20 } : Room) s m args below meth c Q cX12_readNumber D cy ci h A0 .int o) {t0 : Int32} {I : Nat → Int32} {A : Nat → Nat → Int32} {H : Heap} {locs : List Loc} {ls : Array Slot} (hf : f_readNumber_86 t0 I A = some o) (hM : mH D cy ci h A0 s H locs I A) (hl : lv_has ls 4 []) : W p l e ({ frames := 1, cells := 0, slots := 0, locals := 20 } : Room) s m args below meth c H locs 0 0 Q (F0 m 86 ls [.int t0]) := by
  obtain ⟨hx, hb, hml, hown, hts⟩ := id X
  unfold f_readNumber_86 at hf
  cases hf
  exact hret H locs _ ls hM rfl dX12_readNumber_86
noncomputable def f_readNumber_81 (I : Nat → Int32) (A : Nat → Nat → Int32) : Option (Int32 × MS) :=
  f_readNumber_86 (-1 : Int32) I A

set_option maxRecDepth 100000 in
set_option maxHeartbeats 4000000 in
theorem w_readNumber_81 {p : Program} {l : Launch} {e : Env} {s : State} {m : MethodId} {args : Array Value} {below : List Frame} {meth : Method} {c : Code} {Q : State → Prop} {D : va_G} {cy ci : ClassId} {h : Nat → Nat} {A0 : Nat → Prop} {o : Int32 × MS} (X : CallFix p m c cX12_readNumber 4 s args wsX12_readNumber RX12) (hret : mRi p l e ({ frames := 1, cells := 0, slots := 0, locals := 20 } : Room) s m args below meth c Q cX12_readNumber D cy ci h A0 .int o) {I : Nat → Int32} {A : Nat → Nat → Int32} {H : Heap} {locs : List Loc} {ls : Array Slot} (hf : f_readNumber_81  I A = some o) (hM : mH D cy ci h A0 s H locs I A) (hl : lv_has ls 4 []) : W p l e ({ frames := 1, cells := 0, slots := 0, locals := 20 } : Room) s m args below meth c H locs 0 0 Q (F0 m 81 ls []) := by
  obtain ⟨hx, hb, hml, hown, hts⟩ := id X
  unfold f_readNumber_81 at hf
  refine lv_iconst (v := (-1 : Int32)) hx hb dX12_readNumber_81 (by decide) ?_
  refine lv_goto (tgt := 86) hx hb dX12_readNumber_82 (by decide) ?_
  exact w_readNumber_86 X hret hf hM (lv_sub hl [] rfl)
noncomputable def f_readNumber_85 (x1 : Int32) (I : Nat → Int32) (A : Nat → Nat → Int32) : Option (Int32 × MS) :=
  f_readNumber_86 x1 I A

set_option maxRecDepth 100000 in
set_option maxHeartbeats 4000000 in
theorem w_readNumber_85 {p : Program} {l : Launch} {e : Env} {s : State} {m : MethodId} {args : Array Value} {below : List Frame} {meth : Method} {c : Code} {Q : State → Prop} {D : va_G} {cy ci : ClassId} {h : Nat → Nat} {A0 : Nat → Prop} {o : Int32 × MS} (X : CallFix p m c cX12_readNumber 4 s args wsX12_readNumber RX12) (hret : mRi p l e ({ frames := 1, cells := 0, slots := 0, locals := 20 } : Room) s m args below meth c Q cX12_readNumber D cy ci h A0 .int o) {x1 : Int32} {I : Nat → Int32} {A : Nat → Nat → Int32} {H : Heap} {locs : List Loc} {ls : Array Slot} (hf : f_readNumber_85 x1 I A = some o) (hM : mH D cy ci h A0 s H locs I A) (hl : lv_has ls 4 [(1, .int x1)]) : W p l e ({ frames := 1, cells := 0, slots := 0, locals := 20 } : Room) s m args below meth c H locs 0 0 Q (F0 m 85 ls []) := by
  obtain ⟨hx, hb, hml, hown, hts⟩ := id X
  unfold f_readNumber_85 at hf
  refine lv_iload_n hx hb dX12_readNumber_85 rfl (lv_at hl 0 rfl) ?_
  exact w_readNumber_86 X hret hf hM (lv_sub hl [] rfl)
noncomputable def f_readNumber_61 (x1 : Int32) (x2 : Int32) (x3 : Int32) (I : Nat → Int32) (A : Nat → Nat → Int32) : Option (Int32 × MS) :=
  m_if (x2 = 0) (
  f_readNumber_81  I A
  ) (
  m_if ((3 : Int32) < x2) (
  f_readNumber_81  I A
  ) (
  m_if (x2 ≤ (1 : Int32)) (
  f_readNumber_85 x1 I A
  ) (
  m_if (x3 = (48 : Int32)) (
  f_readNumber_81  I A
  ) (
  f_readNumber_85 x1 I A
  )
  )
  )
  )

set_option maxRecDepth 100000 in
set_option maxHeartbeats 4000000 in
theorem w_readNumber_61 {p : Program} {l : Launch} {e : Env} {s : State} {m : MethodId} {args : Array Value} {below : List Frame} {meth : Method} {c : Code} {Q : State → Prop} {D : va_G} {cy ci : ClassId} {h : Nat → Nat} {A0 : Nat → Prop} {o : Int32 × MS} (X : CallFix p m c cX12_readNumber 4 s args wsX12_readNumber RX12) (hret : mRi p l e ({ frames := 1, cells := 0, slots := 0, locals := 20 } : Room) s m args below meth c Q cX12_readNumber D cy ci h A0 .int o) {x1 : Int32} {x2 : Int32} {x3 : Int32} {I : Nat → Int32} {A : Nat → Nat → Int32} {H : Heap} {locs : List Loc} {ls : Array Slot} (hf : f_readNumber_61 x1 x2 x3 I A = some o) (hM : mH D cy ci h A0 s H locs I A) (hl : lv_has ls 4 [(1, .int x1), (2, .int x2), (3, .int x3)]) : W p l e ({ frames := 1, cells := 0, slots := 0, locals := 20 } : Room) s m args below meth c H locs 0 0 Q (F0 m 61 ls []) := by
  obtain ⟨hx, hb, hml, hown, hts⟩ := id X
  unfold f_readNumber_61 at hf
  refine lv_iload_n hx hb dX12_readNumber_61 rfl (lv_at hl 1 rfl) ?_
  refine lv_if_eq (tgt := 81) hx hb dX12_readNumber_62 (by decide) (fun cc1 => ?_) (fun cc1 => ?_)
  · replace hf := m_ifT hf cc1
    exact w_readNumber_81 X hret hf hM (lv_sub hl [] rfl)
  · replace hf := m_ifF hf cc1
    refine lv_iload_n hx hb dX12_readNumber_65 rfl (lv_at hl 1 rfl) ?_
    refine lv_iconst (v := (3 : Int32)) hx hb dX12_readNumber_66 (by decide) ?_
    refine lv_icmp_gt (tgt := 81) hx hb dX12_readNumber_67 (by decide) (fun cc1 => ?_) (fun cc1 => ?_)
    · replace hf := m_ifT hf cc1
      exact w_readNumber_81 X hret hf hM (lv_sub hl [] rfl)
    · replace hf := m_ifF hf cc1
      refine lv_iload_n hx hb dX12_readNumber_70 rfl (lv_at hl 1 rfl) ?_
      refine lv_iconst (v := (1 : Int32)) hx hb dX12_readNumber_71 (by decide) ?_
      refine lv_icmp_le (tgt := 85) hx hb dX12_readNumber_72 (by decide) (fun cc1 => ?_) (fun cc1 => ?_)
      · replace hf := m_ifT hf cc1
        exact w_readNumber_85 X hret hf hM (lv_sub hl [0] rfl)
      · replace hf := m_ifF hf cc1
        refine lv_iload_n hx hb dX12_readNumber_75 rfl (lv_at hl 2 rfl) ?_
        refine lv_bipush (v := (48 : Int32)) hx hb dX12_readNumber_76 (by decide) ?_
        refine lv_icmp_ne (tgt := 85) hx hb dX12_readNumber_78 (by decide) (fun cc1 => ?_) (fun cc1 => ?_)
        · replace hf := m_ifF hf cc1
          exact w_readNumber_85 X hret hf hM (lv_sub hl [0] rfl)
        · replace hf := m_ifT hf cc1
          exact w_readNumber_81 X hret hf hM (lv_sub hl [] rfl)
noncomputable def f_readNumber_9s (self9 : Int32 → Int32 → Int32 → (Nat → Int32) → (Nat → Nat → Int32) → Option (Int32 × MS)) (x1 : Int32) (x2 : Int32) (x3 : Int32) (I : Nat → Int32) (A : Nat → Nat → Int32) : Option (Int32 × MS) :=
  m_cl (f_sign  I A) (fun r1 Ic1 Ac1 =>
  m_if (r1 < (48 : Int32)) (
  f_readNumber_61 x1 x2 x3 Ic1 Ac1
  ) (
  m_cl (f_sign  Ic1 Ac1) (fun r2 Ic2 Ac2 =>
  m_if ((57 : Int32) < r2) (
  f_readNumber_61 x1 x2 x3 Ic2 Ac2
  ) (
  m_if ((4 : Int32) ≤ x2) (
  f_readNumber_61 x1 x2 x3 Ic2 Ac2
  ) (
  m_bnd ((10 : Int32) * x1) (fun v3 =>
  m_cl (f_sign  Ic2 Ac2) (fun r4 Ic4 Ac4 =>
  m_bnd (v3 + r4) (fun v5 =>
  m_bnd (v5 - (48 : Int32)) (fun v6 =>
  m_bnd (x2 + (1 : Int32)) (fun v7 =>
  m_bnd ((Ic4 38) + (1 : Int32)) (fun v8 =>
  m_bnd (upd Ic4 38 v8) (fun I9 =>
  self9 v6 v7 x3 I9 Ac4)))))))
  )
  ))
  ))

set_option maxRecDepth 100000 in
set_option maxHeartbeats 4000000 in
theorem ws_readNumber_9 {p : Program} {l : Launch} {e : Env} {s : State} {m : MethodId} {args : Array Value} {below : List Frame} {meth : Method} {c : Code} {Q : State → Prop} {D : va_G} {cy ci : ClassId} {h : Nat → Nat} {A0 : Nat → Prop} {o : Int32 × MS} (X : CallFix p m c cX12_readNumber 4 s args wsX12_readNumber RX12) (hret : mRi p l e ({ frames := 1, cells := 0, slots := 0, locals := 20 } : Room) s m args below meth c Q cX12_readNumber D cy ci h A0 .int o) {self9 : Int32 → Int32 → Int32 → (Nat → Int32) → (Nat → Nat → Int32) → Option (Int32 × MS)} (hself9 : ∀ (x1 : Int32) (x2 : Int32) (x3 : Int32) (I : Nat → Int32) (A : Nat → Nat → Int32) (H : Heap) (locs : List Loc) (ls : Array Slot), self9 x1 x2 x3 I A = some o → mH D cy ci h A0 s H locs I A → lv_has ls 4 [(0, .ref (h 0)), (1, .int x1), (2, .int x2), (3, .int x3)] → W p l e ({ frames := 1, cells := 0, slots := 0, locals := 20 } : Room) s m args below meth c H locs 0 0 Q (F0 m 9 ls [])) {x1 : Int32} {x2 : Int32} {x3 : Int32} {I : Nat → Int32} {A : Nat → Nat → Int32} {H : Heap} {locs : List Loc} {ls : Array Slot} (hf : f_readNumber_9s self9 x1 x2 x3 I A = some o) (hM : mH D cy ci h A0 s H locs I A) (hl : lv_has ls 4 [(0, .ref (h 0)), (1, .int x1), (2, .int x2), (3, .int x3)]) : W p l e ({ frames := 1, cells := 0, slots := 0, locals := 20 } : Room) s m args below meth c H locs 0 0 Q (F0 m 9 ls []) := by
  obtain ⟨hx, hb, hml, hown, hts⟩ := id X
  unfold f_readNumber_9s at hf
  refine lv_aload_n hx hb dX12_readNumber_9 rfl (lv_at hl 0 rfl) ?_
  obtain ⟨o1, ho, hf⟩ := m_clE hf
  refine m_callVi X hM (c_sign ho) gX12_readNumber_X12_sign rfl ⟨rfl, rfl⟩ hd_sign ⟨Nat.le_of_ble_eq_true rfl, Nat.le_of_ble_eq_true rfl⟩ rfl hl.1 rfl (Nat.le_of_ble_eq_true rfl) dX12_readNumber_10 (fun H locs hM => ?_)
  clear ho
  refine lv_bipush (v := (48 : Int32)) hx hb dX12_readNumber_13 (by decide) ?_
  refine lv_icmp_lt (tgt := 61) hx hb dX12_readNumber_15 (by decide) (fun cc1 => ?_) (fun cc1 => ?_)
  · replace hf := m_ifT hf cc1
    exact w_readNumber_61 X hret hf hM (lv_sub hl [1, 2, 3] rfl)
  · replace hf := m_ifF hf cc1
    refine lv_aload_n hx hb dX12_readNumber_18 rfl (lv_at hl 0 rfl) ?_
    obtain ⟨o2, ho, hf⟩ := m_clE hf
    refine m_callVi X hM (c_sign ho) gX12_readNumber_X12_sign rfl ⟨rfl, rfl⟩ hd_sign ⟨Nat.le_of_ble_eq_true rfl, Nat.le_of_ble_eq_true rfl⟩ rfl hl.1 rfl (Nat.le_of_ble_eq_true rfl) dX12_readNumber_19 (fun H locs hM => ?_)
    clear ho
    refine lv_bipush (v := (57 : Int32)) hx hb dX12_readNumber_22 (by decide) ?_
    refine lv_icmp_gt (tgt := 61) hx hb dX12_readNumber_24 (by decide) (fun cc1 => ?_) (fun cc1 => ?_)
    · replace hf := m_ifT hf cc1
      exact w_readNumber_61 X hret hf hM (lv_sub hl [1, 2, 3] rfl)
    · replace hf := m_ifF hf cc1
      refine lv_iload_n hx hb dX12_readNumber_27 rfl (lv_at hl 2 rfl) ?_
      refine lv_iconst (v := (4 : Int32)) hx hb dX12_readNumber_28 (by decide) ?_
      refine lv_icmp_ge (tgt := 61) hx hb dX12_readNumber_29 (by decide) (fun cc1 => ?_) (fun cc1 => ?_)
      · replace hf := m_ifT hf cc1
        exact w_readNumber_61 X hret hf hM (lv_sub hl [1, 2, 3] rfl)
      · replace hf := m_ifF hf cc1
        refine lv_bipush (v := (10 : Int32)) hx hb dX12_readNumber_32 (by decide) ?_
        refine lv_iload_n hx hb dX12_readNumber_34 rfl (lv_at hl 1 rfl) ?_
        refine lv_imul hx hb dX12_readNumber_35 ?_
        obtain ⟨v3, ev, hf⟩ := m_bndE hf
        refine m_top ev ?_
        clear ev
        refine lv_aload_n hx hb dX12_readNumber_36 rfl (lv_at hl 0 rfl) ?_
        obtain ⟨o4, ho, hf⟩ := m_clE hf
        refine m_callVi X hM (c_sign ho) gX12_readNumber_X12_sign rfl ⟨rfl, rfl⟩ hd_sign ⟨Nat.le_of_ble_eq_true rfl, Nat.le_of_ble_eq_true rfl⟩ rfl hl.1 rfl (Nat.le_of_ble_eq_true rfl) dX12_readNumber_37 (fun H locs hM => ?_)
        clear ho
        refine lv_iadd hx hb dX12_readNumber_40 ?_
        obtain ⟨v5, ev, hf⟩ := m_bndE hf
        refine m_top ev ?_
        clear ev
        refine lv_bipush (v := (48 : Int32)) hx hb dX12_readNumber_41 (by decide) ?_
        refine lv_isub hx hb dX12_readNumber_43 ?_
        obtain ⟨v6, ev, hf⟩ := m_bndE hf
        refine m_top ev ?_
        clear ev
        refine lv_istore_n (lv' := [(1, .int v6), (0, .ref (h 0)), (2, .int x2), (3, .int x3)]) hx hb dX12_readNumber_44 rfl hl (by decide) rfl (fun ls hl => ?_)
        obtain ⟨v7, ev, hf⟩ := m_bndE hf
        refine lv_iinc (v := v7) (lv' := [(2, .int v7), (1, .int v6), (0, .ref (h 0)), (3, .int x3)]) hx hb dX12_readNumber_45 hl (k := 2) rfl (by rw [ev]; rfl) (by decide) rfl (fun ls hl => ?_)
        clear ev
        refine lv_aload_n hx hb dX12_readNumber_48 rfl (lv_at hl 2 rfl) ?_
        refine lv_dup hx hb dX12_readNumber_49 rfl ?_
        refine m_get (v := .int (o4.2.1 38)) X hw_readNumber hM 38 (by decide) fl_readNumber_38 rfl dX12_readNumber_50 ?_
        refine lv_iconst (v := (1 : Int32)) hx hb dX12_readNumber_53 (by decide) ?_
        refine lv_iadd hx hb dX12_readNumber_54 ?_
        obtain ⟨v8, ev, hf⟩ := m_bndE hf
        refine m_top ev ?_
        clear ev
        refine m_put X hw_readNumber hM 38 (by decide) fl_readNumber_38 mi_38 rfl (tyX12_ok 38 (by decide)) dX12_readNumber_55 (fun H locs hM => ?_)
        obtain ⟨I9, ev, hf⟩ := m_bndE hf
        replace hM := m_hI hM ev
        clear ev
        refine lv_goto (tgt := 9) hx hb dX12_readNumber_58 (by decide) ?_
        exact hself9 _ _ _ _ _ _ _ _ hf hM (lv_sub hl [2, 1, 0, 3] rfl)
noncomputable def f_readNumber_9 : Nat → Int32 → Int32 → Int32 → (Nat → Int32) → (Nat → Nat → Int32) → Option (Int32 × MS)
  | 0 => fun _ _ _ _ _ => none
  | n + 1 => f_readNumber_9s (f_readNumber_9 n)
theorem w_readNumber_9 {p : Program} {l : Launch} {e : Env} {s : State} {m : MethodId} {args : Array Value} {below : List Frame} {meth : Method} {c : Code} {Q : State → Prop} {D : va_G} {cy ci : ClassId} {h : Nat → Nat} {A0 : Nat → Prop} {o : Int32 × MS} (X : CallFix p m c cX12_readNumber 4 s args wsX12_readNumber RX12) (hret : mRi p l e ({ frames := 1, cells := 0, slots := 0, locals := 20 } : Room) s m args below meth c Q cX12_readNumber D cy ci h A0 .int o) (n : Nat) : ∀ (x1 : Int32) (x2 : Int32) (x3 : Int32) (I : Nat → Int32) (A : Nat → Nat → Int32) (H : Heap) (locs : List Loc) (ls : Array Slot), f_readNumber_9 n x1 x2 x3 I A = some o → mH D cy ci h A0 s H locs I A → lv_has ls 4 [(0, .ref (h 0)), (1, .int x1), (2, .int x2), (3, .int x3)] → W p l e ({ frames := 1, cells := 0, slots := 0, locals := 20 } : Room) s m args below meth c H locs 0 0 Q (F0 m 9 ls []) := by
  induction n with
  | zero => intro x1 x2 x3 I A H locs ls hf; cases hf
  | succ n ih => intro x1 x2 x3 I A H locs ls hf hM hl; exact ws_readNumber_9 X hret (self9 := f_readNumber_9 n) ih hf hM hl
noncomputable def f_readNumber_0 (I : Nat → Int32) (A : Nat → Nat → Int32) : Option (Int32 × MS) :=
  m_cl (f_sign  I A) (fun r1 Ic1 Ac1 =>
  f_readNumber_9 mFuel (0 : Int32) (0 : Int32) r1 Ic1 Ac1)

set_option maxRecDepth 100000 in
set_option maxHeartbeats 4000000 in
theorem w_readNumber_0 {p : Program} {l : Launch} {e : Env} {s : State} {m : MethodId} {args : Array Value} {below : List Frame} {meth : Method} {c : Code} {Q : State → Prop} {D : va_G} {cy ci : ClassId} {h : Nat → Nat} {A0 : Nat → Prop} {o : Int32 × MS} (X : CallFix p m c cX12_readNumber 4 s args wsX12_readNumber RX12) (hret : mRi p l e ({ frames := 1, cells := 0, slots := 0, locals := 20 } : Room) s m args below meth c Q cX12_readNumber D cy ci h A0 .int o) {I : Nat → Int32} {A : Nat → Nat → Int32} {H : Heap} {locs : List Loc} {ls : Array Slot} (hf : f_readNumber_0  I A = some o) (hM : mH D cy ci h A0 s H locs I A) (hl : lv_has ls 4 [(0, .ref (h 0))]) : W p l e ({ frames := 1, cells := 0, slots := 0, locals := 20 } : Room) s m args below meth c H locs 0 0 Q (F0 m 0 ls []) := by
  obtain ⟨hx, hb, hml, hown, hts⟩ := id X
  unfold f_readNumber_0 at hf
  refine lv_iconst (v := (0 : Int32)) hx hb dX12_readNumber_0 (by decide) ?_
  refine lv_istore_n (lv' := [(1, .int (0 : Int32)), (0, .ref (h 0))]) hx hb dX12_readNumber_1 rfl hl (by decide) rfl (fun ls hl => ?_)
  refine lv_iconst (v := (0 : Int32)) hx hb dX12_readNumber_2 (by decide) ?_
  refine lv_istore_n (lv' := [(2, .int (0 : Int32)), (1, .int (0 : Int32)), (0, .ref (h 0))]) hx hb dX12_readNumber_3 rfl hl (by decide) rfl (fun ls hl => ?_)
  refine lv_aload_n hx hb dX12_readNumber_4 rfl (lv_at hl 2 rfl) ?_
  obtain ⟨o1, ho, hf⟩ := m_clE hf
  refine m_callVi X hM (c_sign ho) gX12_readNumber_X12_sign rfl ⟨rfl, rfl⟩ hd_sign ⟨Nat.le_of_ble_eq_true rfl, Nat.le_of_ble_eq_true rfl⟩ rfl hl.1 rfl (Nat.le_of_ble_eq_true rfl) dX12_readNumber_5 (fun H locs hM => ?_)
  clear ho
  refine lv_istore_n (lv' := [(3, .int o1.1), (2, .int (0 : Int32)), (1, .int (0 : Int32)), (0, .ref (h 0))]) hx hb dX12_readNumber_8 rfl hl (by decide) rfl (fun ls hl => ?_)
  exact w_readNumber_9 X hret _ _ _ _ _ _ _ _ _ hf hM (lv_sub hl [3, 2, 1, 0] rfl)
noncomputable def f_readNumber (I : Nat → Int32) (A : Nat → Nat → Int32) : Option (Int32 × MS) := f_readNumber_0  I A
theorem c_readNumber {l : Launch} {D : va_G} {cy ci : ClassId} {h : Nat → Nat} {I : Nat → Int32} {A : Nat → Nat → Int32} {o : Int32 × MS} (hf : f_readNumber  I A = some o) : mMi l yX12_readNumber wsX12_readNumber ({ frames := 1, cells := 0, slots := 0, locals := 20 } : Room) [.ref (h 0)] D cy ci h I A o :=
  m_entryI (cc := cX12_readNumber) (maxL := 4) (by decide) rfl rfl (Nat.le_of_ble_eq_true rfl) (fun p e s m args below meth c A0 Q H locs ls X hret hM hl => w_readNumber_0 X hret hf hM (lv_sub hl [0] rfl))
theorem hw_readRights : ∀ w ∈ wsX120, w ∈ wsX12_readRights := by decide +kernel
theorem fl_readRights_26 : Cond.fieldLink RX12 124 "MoveTextsModel" "rights" "I" ∈ wsX12_readRights := by decide +kernel
theorem fl_readRights_38 : Cond.fieldLink RX12 229 "MoveTextsModel" "valueAt" "I" ∈ wsX12_readRights := by decide +kernel
theorem hd_readRights : yX12_readRights.cls = RX12 ∧ yX12_readRights.cls ≠ "java/lang/invoke/MethodHandle" ∧ yX12_readRights.cls ≠ "java/lang/invoke/VarHandle" ∧ (parseMethodDescriptor yX12_readRights.desc).map (fun d => d.parameters.length) = some 0 := by decide +kernel
noncomputable def f_readRights_106 (t0 : Int32) (I : Nat → Int32) (A : Nat → Nat → Int32) : Option (Int32 × MS) :=
  m_chk (vp_nar .boolean t0 = t0) (some (t0, (I, A)))

set_option maxRecDepth 100000 in
set_option maxHeartbeats 4000000 in
theorem w_readRights_106 {p : Program} {l : Launch} {e : Env} {s : State} {m : MethodId} {args : Array Value} {below : List Frame} {meth : Method} {c : Code} {Q : State → Prop} {D : va_G} {cy ci : ClassId} {h : Nat → Nat} {A0 : Nat → Prop} {o : Int32 × MS} (X : CallFix p m c cX12_readRights 2 s args wsX12_readRights RX12) (hret : mRi p l e ({ frames := 2, cells := 0, slots := 0, locals := 42 } : Room) s m args below meth c Q cX12_readRights D cy ci h A0 .boolean o) {t0 : Int32} {I : Nat → Int32} {A : Nat → Nat → Int32} {H : Heap} {locs : List Loc} {ls : Array Slot} (hf : f_readRights_106 t0 I A = some o) (hM : mH D cy ci h A0 s H locs I A) (hl : lv_has ls 2 []) : W p l e ({ frames := 2, cells := 0, slots := 0, locals := 42 } : Room) s m args below meth c H locs 0 0 Q (F0 m 106 ls [.int t0]) := by
  obtain ⟨hx, hb, hml, hown, hts⟩ := id X
  unfold f_readRights_106 at hf
  obtain ⟨cd, hf⟩ := m_chkE hf
  cases hf
  exact hret H locs _ ls hM (m_nb cd) dX12_readRights_106
noncomputable def f_readRights_88 (self23 : Int32 → (Nat → Int32) → (Nat → Nat → Int32) → Option (Int32 × MS)) (x1 : Int32) (I : Nat → Int32) (A : Nat → Nat → Int32) : Option (Int32 × MS) :=
  m_bnd (x1 + (1 : Int32)) (fun v1 =>
  self23 v1 I A)

set_option maxRecDepth 100000 in
set_option maxHeartbeats 4000000 in
theorem w_readRights_88 {p : Program} {l : Launch} {e : Env} {s : State} {m : MethodId} {args : Array Value} {below : List Frame} {meth : Method} {c : Code} {Q : State → Prop} {D : va_G} {cy ci : ClassId} {h : Nat → Nat} {A0 : Nat → Prop} {o : Int32 × MS} (X : CallFix p m c cX12_readRights 2 s args wsX12_readRights RX12) (hret : mRi p l e ({ frames := 2, cells := 0, slots := 0, locals := 42 } : Room) s m args below meth c Q cX12_readRights D cy ci h A0 .boolean o) {self23 : Int32 → (Nat → Int32) → (Nat → Nat → Int32) → Option (Int32 × MS)} (hself23 : ∀ (x1 : Int32) (I : Nat → Int32) (A : Nat → Nat → Int32) (H : Heap) (locs : List Loc) (ls : Array Slot), self23 x1 I A = some o → mH D cy ci h A0 s H locs I A → lv_has ls 2 [(0, .ref (h 0)), (1, .int x1)] → W p l e ({ frames := 2, cells := 0, slots := 0, locals := 42 } : Room) s m args below meth c H locs 0 0 Q (F0 m 23 ls [])) {x1 : Int32} {I : Nat → Int32} {A : Nat → Nat → Int32} {H : Heap} {locs : List Loc} {ls : Array Slot} (hf : f_readRights_88 self23 x1 I A = some o) (hM : mH D cy ci h A0 s H locs I A) (hl : lv_has ls 2 [(0, .ref (h 0)), (1, .int x1)]) : W p l e ({ frames := 2, cells := 0, slots := 0, locals := 42 } : Room) s m args below meth c H locs 0 0 Q (F0 m 88 ls []) := by
  obtain ⟨hx, hb, hml, hown, hts⟩ := id X
  unfold f_readRights_88 at hf
  obtain ⟨v1, ev, hf⟩ := m_bndE hf
  refine lv_iinc (v := v1) (lv' := [(1, .int v1), (0, .ref (h 0))]) hx hb dX12_readRights_88 hl (k := 1) rfl (by rw [ev]; rfl) (by decide) rfl (fun ls hl => ?_)
  clear ev
  refine lv_goto (tgt := 23) hx hb dX12_readRights_91 (by decide) ?_
  exact hself23 _ _ _ _ _ _ hf hM (lv_sub hl [1, 0] rfl)
noncomputable def f_readRights_63 (self23 : Int32 → (Nat → Int32) → (Nat → Nat → Int32) → Option (Int32 × MS)) (x1 : Int32) (t0 : Int32) (t1 : Int32) (I : Nat → Int32) (A : Nat → Nat → Int32) : Option (Int32 × MS) :=
  m_if (t1 = t0) (
  m_bnd ((1 : Int32) <<< (x1 &&& 31)) (fun v1 =>
  m_bnd ((I 26) + v1) (fun v2 =>
  m_bnd (upd I 26 v2) (fun I3 =>
  m_bnd ((I3 38) + (1 : Int32)) (fun v4 =>
  m_bnd (upd I3 38 v4) (fun I5 =>
  f_readRights_88 self23 x1 I5 A)))))
  ) (
  f_readRights_88 self23 x1 I A
  )

set_option maxRecDepth 100000 in
set_option maxHeartbeats 4000000 in
theorem w_readRights_63 {p : Program} {l : Launch} {e : Env} {s : State} {m : MethodId} {args : Array Value} {below : List Frame} {meth : Method} {c : Code} {Q : State → Prop} {D : va_G} {cy ci : ClassId} {h : Nat → Nat} {A0 : Nat → Prop} {o : Int32 × MS} (X : CallFix p m c cX12_readRights 2 s args wsX12_readRights RX12) (hret : mRi p l e ({ frames := 2, cells := 0, slots := 0, locals := 42 } : Room) s m args below meth c Q cX12_readRights D cy ci h A0 .boolean o) {self23 : Int32 → (Nat → Int32) → (Nat → Nat → Int32) → Option (Int32 × MS)} (hself23 : ∀ (x1 : Int32) (I : Nat → Int32) (A : Nat → Nat → Int32) (H : Heap) (locs : List Loc) (ls : Array Slot), self23 x1 I A = some o → mH D cy ci h A0 s H locs I A → lv_has ls 2 [(0, .ref (h 0)), (1, .int x1)] → W p l e ({ frames := 2, cells := 0, slots := 0, locals := 42 } : Room) s m args below meth c H locs 0 0 Q (F0 m 23 ls [])) {x1 : Int32} {t0 : Int32} {t1 : Int32} {I : Nat → Int32} {A : Nat → Nat → Int32} {H : Heap} {locs : List Loc} {ls : Array Slot} (hf : f_readRights_63 self23 x1 t0 t1 I A = some o) (hM : mH D cy ci h A0 s H locs I A) (hl : lv_has ls 2 [(0, .ref (h 0)), (1, .int x1)]) : W p l e ({ frames := 2, cells := 0, slots := 0, locals := 42 } : Room) s m args below meth c H locs 0 0 Q (F0 m 63 ls [.int t0, .int t1]) := by
  obtain ⟨hx, hb, hml, hown, hts⟩ := id X
  unfold f_readRights_63 at hf
  refine lv_icmp_ne (tgt := 88) hx hb dX12_readRights_63 (by decide) (fun cc1 => ?_) (fun cc1 => ?_)
  · replace hf := m_ifF hf cc1
    exact w_readRights_88 X hret hself23 hf hM (lv_sub hl [0, 1] rfl)
  · replace hf := m_ifT hf cc1
    refine lv_aload_n hx hb dX12_readRights_66 rfl (lv_at hl 0 rfl) ?_
    refine lv_aload_n hx hb dX12_readRights_67 rfl (lv_at hl 0 rfl) ?_
    refine m_get (v := .int (I 26)) X hw_readRights hM 26 (by decide) fl_readRights_26 rfl dX12_readRights_68 ?_
    refine lv_iconst (v := (1 : Int32)) hx hb dX12_readRights_71 (by decide) ?_
    refine lv_iload_n hx hb dX12_readRights_72 rfl (lv_at hl 1 rfl) ?_
    refine lv_ishl hx hb dX12_readRights_73 ?_
    obtain ⟨v1, ev, hf⟩ := m_bndE hf
    refine m_top ev ?_
    clear ev
    refine lv_iadd hx hb dX12_readRights_74 ?_
    obtain ⟨v2, ev, hf⟩ := m_bndE hf
    refine m_top ev ?_
    clear ev
    refine m_put X hw_readRights hM 26 (by decide) fl_readRights_26 mi_26 rfl (tyX12_ok 26 (by decide)) dX12_readRights_75 (fun H locs hM => ?_)
    obtain ⟨I3, ev, hf⟩ := m_bndE hf
    replace hM := m_hI hM ev
    clear ev
    refine lv_aload_n hx hb dX12_readRights_78 rfl (lv_at hl 0 rfl) ?_
    refine lv_dup hx hb dX12_readRights_79 rfl ?_
    refine m_get (v := .int (I3 38)) X hw_readRights hM 38 (by decide) fl_readRights_38 rfl dX12_readRights_80 ?_
    refine lv_iconst (v := (1 : Int32)) hx hb dX12_readRights_83 (by decide) ?_
    refine lv_iadd hx hb dX12_readRights_84 ?_
    obtain ⟨v4, ev, hf⟩ := m_bndE hf
    refine m_top ev ?_
    clear ev
    refine m_put X hw_readRights hM 38 (by decide) fl_readRights_38 mi_38 rfl (tyX12_ok 38 (by decide)) dX12_readRights_85 (fun H locs hM => ?_)
    obtain ⟨I5, ev, hf⟩ := m_bndE hf
    replace hM := m_hI hM ev
    clear ev
    exact w_readRights_88 X hret hself23 hf hM (lv_sub hl [0, 1] rfl)
noncomputable def f_readRights_23s (self23 : Int32 → (Nat → Int32) → (Nat → Nat → Int32) → Option (Int32 × MS)) (x1 : Int32) (I : Nat → Int32) (A : Nat → Nat → Int32) : Option (Int32 × MS) :=
  m_if ((4 : Int32) ≤ x1) (
  m_if ((I 26) ≤ 0) (
  f_readRights_106 (0 : Int32) I A
  ) (
  f_readRights_106 (1 : Int32) I A
  )
  ) (
  m_cl (f_sign  I A) (fun r1 Ic1 Ac1 =>
  m_if (x1 = 0) (
  f_readRights_63 self23 x1 (75 : Int32) r1 Ic1 Ac1
  ) (
  m_if (x1 = (1 : Int32)) (
  f_readRights_63 self23 x1 (81 : Int32) r1 Ic1 Ac1
  ) (
  m_if (x1 = (2 : Int32)) (
  f_readRights_63 self23 x1 (107 : Int32) r1 Ic1 Ac1
  ) (
  f_readRights_63 self23 x1 (113 : Int32) r1 Ic1 Ac1
  )
  )
  ))
  )

set_option maxRecDepth 100000 in
set_option maxHeartbeats 4000000 in
theorem ws_readRights_23 {p : Program} {l : Launch} {e : Env} {s : State} {m : MethodId} {args : Array Value} {below : List Frame} {meth : Method} {c : Code} {Q : State → Prop} {D : va_G} {cy ci : ClassId} {h : Nat → Nat} {A0 : Nat → Prop} {o : Int32 × MS} (X : CallFix p m c cX12_readRights 2 s args wsX12_readRights RX12) (hret : mRi p l e ({ frames := 2, cells := 0, slots := 0, locals := 42 } : Room) s m args below meth c Q cX12_readRights D cy ci h A0 .boolean o) {self23 : Int32 → (Nat → Int32) → (Nat → Nat → Int32) → Option (Int32 × MS)} (hself23 : ∀ (x1 : Int32) (I : Nat → Int32) (A : Nat → Nat → Int32) (H : Heap) (locs : List Loc) (ls : Array Slot), self23 x1 I A = some o → mH D cy ci h A0 s H locs I A → lv_has ls 2 [(0, .ref (h 0)), (1, .int x1)] → W p l e ({ frames := 2, cells := 0, slots := 0, locals := 42 } : Room) s m args below meth c H locs 0 0 Q (F0 m 23 ls [])) {x1 : Int32} {I : Nat → Int32} {A : Nat → Nat → Int32} {H : Heap} {locs : List Loc} {ls : Array Slot} (hf : f_readRights_23s self23 x1 I A = some o) (hM : mH D cy ci h A0 s H locs I A) (hl : lv_has ls 2 [(0, .ref (h 0)), (1, .int x1)]) : W p l e ({ frames := 2, cells := 0, slots := 0, locals := 42 } : Room) s m args below meth c H locs 0 0 Q (F0 m 23 ls []) := by
  obtain ⟨hx, hb, hml, hown, hts⟩ := id X
  unfold f_readRights_23s at hf
  refine lv_iload_n hx hb dX12_readRights_23 rfl (lv_at hl 1 rfl) ?_
  refine lv_iconst (v := (4 : Int32)) hx hb dX12_readRights_24 (by decide) ?_
  refine lv_icmp_ge (tgt := 94) hx hb dX12_readRights_25 (by decide) (fun cc1 => ?_) (fun cc1 => ?_)
  · replace hf := m_ifT hf cc1
    refine lv_aload_n hx hb dX12_readRights_94 rfl (lv_at hl 0 rfl) ?_
    refine m_get (v := .int (I 26)) X hw_readRights hM 26 (by decide) fl_readRights_26 rfl dX12_readRights_95 ?_
    refine lv_if_le (tgt := 105) hx hb dX12_readRights_98 (by decide) (fun cc1 => ?_) (fun cc1 => ?_)
    · replace hf := m_ifT hf cc1
      refine lv_iconst (v := (0 : Int32)) hx hb dX12_readRights_105 (by decide) ?_
      exact w_readRights_106 X hret hf hM (lv_sub hl [] rfl)
    · replace hf := m_ifF hf cc1
      refine lv_iconst (v := (1 : Int32)) hx hb dX12_readRights_101 (by decide) ?_
      refine lv_goto (tgt := 106) hx hb dX12_readRights_102 (by decide) ?_
      exact w_readRights_106 X hret hf hM (lv_sub hl [] rfl)
  · replace hf := m_ifF hf cc1
    refine lv_aload_n hx hb dX12_readRights_28 rfl (lv_at hl 0 rfl) ?_
    obtain ⟨o1, ho, hf⟩ := m_clE hf
    refine m_callVi X hM (c_sign ho) gX12_readRights_X12_sign rfl ⟨rfl, rfl⟩ hd_sign ⟨Nat.le_of_ble_eq_true rfl, Nat.le_of_ble_eq_true rfl⟩ rfl hl.1 rfl (Nat.le_of_ble_eq_true rfl) dX12_readRights_29 (fun H locs hM => ?_)
    clear ho
    refine lv_iload_n hx hb dX12_readRights_32 rfl (lv_at hl 1 rfl) ?_
    refine lv_if_ne (tgt := 41) hx hb dX12_readRights_33 (by decide) (fun cc1 => ?_) (fun cc1 => ?_)
    · replace hf := m_ifF hf cc1
      refine lv_iload_n hx hb dX12_readRights_41 rfl (lv_at hl 1 rfl) ?_
      refine lv_iconst (v := (1 : Int32)) hx hb dX12_readRights_42 (by decide) ?_
      refine lv_icmp_ne (tgt := 51) hx hb dX12_readRights_43 (by decide) (fun cc1 => ?_) (fun cc1 => ?_)
      · replace hf := m_ifF hf cc1
        refine lv_iload_n hx hb dX12_readRights_51 rfl (lv_at hl 1 rfl) ?_
        refine lv_iconst (v := (2 : Int32)) hx hb dX12_readRights_52 (by decide) ?_
        refine lv_icmp_ne (tgt := 61) hx hb dX12_readRights_53 (by decide) (fun cc1 => ?_) (fun cc1 => ?_)
        · replace hf := m_ifF hf cc1
          refine lv_bipush (v := (113 : Int32)) hx hb dX12_readRights_61 (by decide) ?_
          exact w_readRights_63 X hret hself23 hf hM (lv_sub hl [0, 1] rfl)
        · replace hf := m_ifT hf cc1
          refine lv_bipush (v := (107 : Int32)) hx hb dX12_readRights_56 (by decide) ?_
          refine lv_goto (tgt := 63) hx hb dX12_readRights_58 (by decide) ?_
          exact w_readRights_63 X hret hself23 hf hM (lv_sub hl [0, 1] rfl)
      · replace hf := m_ifT hf cc1
        refine lv_bipush (v := (81 : Int32)) hx hb dX12_readRights_46 (by decide) ?_
        refine lv_goto (tgt := 63) hx hb dX12_readRights_48 (by decide) ?_
        exact w_readRights_63 X hret hself23 hf hM (lv_sub hl [0, 1] rfl)
    · replace hf := m_ifT hf cc1
      refine lv_bipush (v := (75 : Int32)) hx hb dX12_readRights_36 (by decide) ?_
      refine lv_goto (tgt := 63) hx hb dX12_readRights_38 (by decide) ?_
      exact w_readRights_63 X hret hself23 hf hM (lv_sub hl [0, 1] rfl)
noncomputable def f_readRights_23 : Nat → Int32 → (Nat → Int32) → (Nat → Nat → Int32) → Option (Int32 × MS)
  | 0 => fun _ _ _ => none
  | n + 1 => f_readRights_23s (f_readRights_23 n)
theorem w_readRights_23 {p : Program} {l : Launch} {e : Env} {s : State} {m : MethodId} {args : Array Value} {below : List Frame} {meth : Method} {c : Code} {Q : State → Prop} {D : va_G} {cy ci : ClassId} {h : Nat → Nat} {A0 : Nat → Prop} {o : Int32 × MS} (X : CallFix p m c cX12_readRights 2 s args wsX12_readRights RX12) (hret : mRi p l e ({ frames := 2, cells := 0, slots := 0, locals := 42 } : Room) s m args below meth c Q cX12_readRights D cy ci h A0 .boolean o) (n : Nat) : ∀ (x1 : Int32) (I : Nat → Int32) (A : Nat → Nat → Int32) (H : Heap) (locs : List Loc) (ls : Array Slot), f_readRights_23 n x1 I A = some o → mH D cy ci h A0 s H locs I A → lv_has ls 2 [(0, .ref (h 0)), (1, .int x1)] → W p l e ({ frames := 2, cells := 0, slots := 0, locals := 42 } : Room) s m args below meth c H locs 0 0 Q (F0 m 23 ls []) := by
  induction n with
  | zero => intro x1 I A H locs ls hf; cases hf
  | succ n ih => intro x1 I A H locs ls hf hM hl; exact ws_readRights_23 X hret (self23 := f_readRights_23 n) ih hf hM hl
noncomputable def f_readRights_0 (I : Nat → Int32) (A : Nat → Nat → Int32) : Option (Int32 × MS) :=
  m_bnd (upd I 26 (0 : Int32)) (fun I1 =>
  m_cl (f_sign  I1 A) (fun r2 Ic2 Ac2 =>
  m_if (r2 = (45 : Int32)) (
  m_cl (f_pass (45 : Int32) Ic2 Ac2) (fun r3 Ic3 Ac3 =>
  m_chk (vp_nar .boolean r3 = r3) (some (r3, (Ic3, Ac3))))
  ) (
  f_readRights_23 mFuel (0 : Int32) Ic2 Ac2
  )))

set_option maxRecDepth 100000 in
set_option maxHeartbeats 4000000 in
theorem w_readRights_0 {p : Program} {l : Launch} {e : Env} {s : State} {m : MethodId} {args : Array Value} {below : List Frame} {meth : Method} {c : Code} {Q : State → Prop} {D : va_G} {cy ci : ClassId} {h : Nat → Nat} {A0 : Nat → Prop} {o : Int32 × MS} (X : CallFix p m c cX12_readRights 2 s args wsX12_readRights RX12) (hret : mRi p l e ({ frames := 2, cells := 0, slots := 0, locals := 42 } : Room) s m args below meth c Q cX12_readRights D cy ci h A0 .boolean o) {I : Nat → Int32} {A : Nat → Nat → Int32} {H : Heap} {locs : List Loc} {ls : Array Slot} (hf : f_readRights_0  I A = some o) (hM : mH D cy ci h A0 s H locs I A) (hl : lv_has ls 2 [(0, .ref (h 0))]) : W p l e ({ frames := 2, cells := 0, slots := 0, locals := 42 } : Room) s m args below meth c H locs 0 0 Q (F0 m 0 ls []) := by
  obtain ⟨hx, hb, hml, hown, hts⟩ := id X
  unfold f_readRights_0 at hf
  refine lv_aload_n hx hb dX12_readRights_0 rfl (lv_at hl 0 rfl) ?_
  refine lv_iconst (v := (0 : Int32)) hx hb dX12_readRights_1 (by decide) ?_
  refine m_put X hw_readRights hM 26 (by decide) fl_readRights_26 mi_26 rfl (tyX12_ok 26 (by decide)) dX12_readRights_2 (fun H locs hM => ?_)
  obtain ⟨I1, ev, hf⟩ := m_bndE hf
  replace hM := m_hI hM ev
  clear ev
  refine lv_aload_n hx hb dX12_readRights_5 rfl (lv_at hl 0 rfl) ?_
  obtain ⟨o2, ho, hf⟩ := m_clE hf
  refine m_callVi X hM (c_sign ho) gX12_readRights_X12_sign rfl ⟨rfl, rfl⟩ hd_sign ⟨Nat.le_of_ble_eq_true rfl, Nat.le_of_ble_eq_true rfl⟩ rfl hl.1 rfl (Nat.le_of_ble_eq_true rfl) dX12_readRights_6 (fun H locs hM => ?_)
  clear ho
  refine lv_bipush (v := (45 : Int32)) hx hb dX12_readRights_9 (by decide) ?_
  refine lv_icmp_ne (tgt := 21) hx hb dX12_readRights_11 (by decide) (fun cc1 => ?_) (fun cc1 => ?_)
  · replace hf := m_ifF hf cc1
    refine lv_iconst (v := (0 : Int32)) hx hb dX12_readRights_21 (by decide) ?_
    refine lv_istore_n (lv' := [(1, .int (0 : Int32)), (0, .ref (h 0))]) hx hb dX12_readRights_22 rfl hl (by decide) rfl (fun ls hl => ?_)
    exact w_readRights_23 X hret _ _ _ _ _ _ _ hf hM (lv_sub hl [1, 0] rfl)
  · replace hf := m_ifT hf cc1
    refine lv_aload_n hx hb dX12_readRights_14 rfl (lv_at hl 0 rfl) ?_
    refine lv_bipush (v := (45 : Int32)) hx hb dX12_readRights_15 (by decide) ?_
    obtain ⟨o3, ho, hf⟩ := m_clE hf
    refine m_callVi X hM (c_pass ho) gX12_readRights_X12_pass rfl ⟨rfl, rfl⟩ hd_pass ⟨Nat.le_of_ble_eq_true rfl, Nat.le_of_ble_eq_true rfl⟩ rfl hl.1 rfl (Nat.le_of_ble_eq_true rfl) dX12_readRights_17 (fun H locs hM => ?_)
    clear ho
    obtain ⟨cd, hf⟩ := m_chkE hf
    cases hf
    exact hret H locs _ ls hM (m_nb cd) dX12_readRights_20
noncomputable def f_readRights (I : Nat → Int32) (A : Nat → Nat → Int32) : Option (Int32 × MS) := f_readRights_0  I A
theorem c_readRights {l : Launch} {D : va_G} {cy ci : ClassId} {h : Nat → Nat} {I : Nat → Int32} {A : Nat → Nat → Int32} {o : Int32 × MS} (hf : f_readRights  I A = some o) : mMi l yX12_readRights wsX12_readRights ({ frames := 2, cells := 0, slots := 0, locals := 42 } : Room) [.ref (h 0)] D cy ci h I A o :=
  m_entryI (cc := cX12_readRights) (maxL := 2) (by decide) rfl rfl (Nat.le_of_ble_eq_true rfl) (fun p e s m args below meth c A0 Q H locs ls X hret hM hl => w_readRights_0 X hret hf hM (lv_sub hl [0] rfl))
theorem hw_readPassed : ∀ w ∈ wsX120, w ∈ wsX12_readPassed := by decide +kernel
theorem fl_readPassed_27 : Cond.fieldLink RX12 127 "MoveTextsModel" "passed" "I" ∈ wsX12_readPassed := by decide +kernel
theorem fl_readPassed_38 : Cond.fieldLink RX12 229 "MoveTextsModel" "valueAt" "I" ∈ wsX12_readPassed := by decide +kernel
theorem hd_readPassed : yX12_readPassed.cls = RX12 ∧ yX12_readPassed.cls ≠ "java/lang/invoke/MethodHandle" ∧ yX12_readPassed.cls ≠ "java/lang/invoke/VarHandle" ∧ (parseMethodDescriptor yX12_readPassed.desc).map (fun d => d.parameters.length) = some 0 := by decide +kernel
noncomputable def f_readPassed_103 (t0 : Int32) (I : Nat → Int32) (A : Nat → Nat → Int32) : Option (Int32 × MS) :=
  m_chk (vp_nar .boolean t0 = t0) (some (t0, (I, A)))

set_option maxRecDepth 100000 in
set_option maxHeartbeats 4000000 in
theorem w_readPassed_103 {p : Program} {l : Launch} {e : Env} {s : State} {m : MethodId} {args : Array Value} {below : List Frame} {meth : Method} {c : Code} {Q : State → Prop} {D : va_G} {cy ci : ClassId} {h : Nat → Nat} {A0 : Nat → Prop} {o : Int32 × MS} (X : CallFix p m c cX12_readPassed 3 s args wsX12_readPassed RX12) (hret : mRi p l e ({ frames := 2, cells := 0, slots := 0, locals := 42 } : Room) s m args below meth c Q cX12_readPassed D cy ci h A0 .boolean o) {t0 : Int32} {I : Nat → Int32} {A : Nat → Nat → Int32} {H : Heap} {locs : List Loc} {ls : Array Slot} (hf : f_readPassed_103 t0 I A = some o) (hM : mH D cy ci h A0 s H locs I A) (hl : lv_has ls 3 []) : W p l e ({ frames := 2, cells := 0, slots := 0, locals := 42 } : Room) s m args below meth c H locs 0 0 Q (F0 m 103 ls [.int t0]) := by
  obtain ⟨hx, hb, hml, hown, hts⟩ := id X
  unfold f_readPassed_103 at hf
  obtain ⟨cd, hf⟩ := m_chkE hf
  cases hf
  exact hret H locs _ ls hM (m_nb cd) dX12_readPassed_103
noncomputable def f_readPassed_88 (t0 : Int32) (I : Nat → Int32) (A : Nat → Nat → Int32) : Option (Int32 × MS) :=
  m_bnd (upd I 27 t0) (fun I1 =>
  m_if ((I1 27) < 0) (
  f_readPassed_103 (0 : Int32) I1 A
  ) (
  f_readPassed_103 (1 : Int32) I1 A
  ))

set_option maxRecDepth 100000 in
set_option maxHeartbeats 4000000 in
theorem w_readPassed_88 {p : Program} {l : Launch} {e : Env} {s : State} {m : MethodId} {args : Array Value} {below : List Frame} {meth : Method} {c : Code} {Q : State → Prop} {D : va_G} {cy ci : ClassId} {h : Nat → Nat} {A0 : Nat → Prop} {o : Int32 × MS} (X : CallFix p m c cX12_readPassed 3 s args wsX12_readPassed RX12) (hret : mRi p l e ({ frames := 2, cells := 0, slots := 0, locals := 42 } : Room) s m args below meth c Q cX12_readPassed D cy ci h A0 .boolean o) {t0 : Int32} {I : Nat → Int32} {A : Nat → Nat → Int32} {H : Heap} {locs : List Loc} {ls : Array Slot} (hf : f_readPassed_88 t0 I A = some o) (hM : mH D cy ci h A0 s H locs I A) (hl : lv_has ls 3 [(0, .ref (h 0))]) : W p l e ({ frames := 2, cells := 0, slots := 0, locals := 42 } : Room) s m args below meth c H locs 0 0 Q (F0 m 88 ls [.int t0, .ref (h 0)]) := by
  obtain ⟨hx, hb, hml, hown, hts⟩ := id X
  unfold f_readPassed_88 at hf
  refine m_put X hw_readPassed hM 27 (by decide) fl_readPassed_27 mi_27 rfl (tyX12_ok 27 (by decide)) dX12_readPassed_88 (fun H locs hM => ?_)
  obtain ⟨I1, ev, hf⟩ := m_bndE hf
  replace hM := m_hI hM ev
  clear ev
  refine lv_aload_n hx hb dX12_readPassed_91 rfl (lv_at hl 0 rfl) ?_
  refine m_get (v := .int (I1 27)) X hw_readPassed hM 27 (by decide) fl_readPassed_27 rfl dX12_readPassed_92 ?_
  refine lv_if_lt (tgt := 102) hx hb dX12_readPassed_95 (by decide) (fun cc1 => ?_) (fun cc1 => ?_)
  · replace hf := m_ifT hf cc1
    refine lv_iconst (v := (0 : Int32)) hx hb dX12_readPassed_102 (by decide) ?_
    exact w_readPassed_103 X hret hf hM (lv_sub hl [] rfl)
  · replace hf := m_ifF hf cc1
    refine lv_iconst (v := (1 : Int32)) hx hb dX12_readPassed_98 (by decide) ?_
    refine lv_goto (tgt := 103) hx hb dX12_readPassed_99 (by decide) ?_
    exact w_readPassed_103 X hret hf hM (lv_sub hl [] rfl)
noncomputable def f_readPassed_87 (I : Nat → Int32) (A : Nat → Nat → Int32) : Option (Int32 × MS) :=
  f_readPassed_88 (-1 : Int32) I A

set_option maxRecDepth 100000 in
set_option maxHeartbeats 4000000 in
theorem w_readPassed_87 {p : Program} {l : Launch} {e : Env} {s : State} {m : MethodId} {args : Array Value} {below : List Frame} {meth : Method} {c : Code} {Q : State → Prop} {D : va_G} {cy ci : ClassId} {h : Nat → Nat} {A0 : Nat → Prop} {o : Int32 × MS} (X : CallFix p m c cX12_readPassed 3 s args wsX12_readPassed RX12) (hret : mRi p l e ({ frames := 2, cells := 0, slots := 0, locals := 42 } : Room) s m args below meth c Q cX12_readPassed D cy ci h A0 .boolean o) {I : Nat → Int32} {A : Nat → Nat → Int32} {H : Heap} {locs : List Loc} {ls : Array Slot} (hf : f_readPassed_87  I A = some o) (hM : mH D cy ci h A0 s H locs I A) (hl : lv_has ls 3 [(0, .ref (h 0))]) : W p l e ({ frames := 2, cells := 0, slots := 0, locals := 42 } : Room) s m args below meth c H locs 0 0 Q (F0 m 87 ls [.ref (h 0)]) := by
  obtain ⟨hx, hb, hml, hown, hts⟩ := id X
  unfold f_readPassed_87 at hf
  refine lv_iconst (v := (-1 : Int32)) hx hb dX12_readPassed_87 (by decide) ?_
  exact w_readPassed_88 X hret hf hM (lv_sub hl [0] rfl)
noncomputable def f_readPassed_0 (I : Nat → Int32) (A : Nat → Nat → Int32) : Option (Int32 × MS) :=
  m_bnd (upd I 27 (-1 : Int32)) (fun I1 =>
  m_cl (f_sign  I1 A) (fun r2 Ic2 Ac2 =>
  m_if (r2 = (45 : Int32)) (
  m_cl (f_pass (45 : Int32) Ic2 Ac2) (fun r13 Ic13 Ac13 =>
  m_chk (vp_nar .boolean r13 = r13) (some (r13, (Ic13, Ac13))))
  ) (
  m_cl (f_sign  Ic2 Ac2) (fun r3 Ic3 Ac3 =>
  m_bnd (r3 - (97 : Int32)) (fun v4 =>
  m_bnd ((Ic3 38) + (1 : Int32)) (fun v5 =>
  m_bnd (upd Ic3 38 v5) (fun I6 =>
  m_cl (f_sign  I6 Ac3) (fun r7 Ic7 Ac7 =>
  m_bnd (r7 - (49 : Int32)) (fun v8 =>
  m_bnd ((Ic7 38) + (1 : Int32)) (fun v9 =>
  m_bnd (upd Ic7 38 v9) (fun I10 =>
  m_if (v4 < 0) (
  f_readPassed_87  I10 Ac7
  ) (
  m_if ((8 : Int32) ≤ v4) (
  f_readPassed_87  I10 Ac7
  ) (
  m_if (v8 < 0) (
  f_readPassed_87  I10 Ac7
  ) (
  m_if ((8 : Int32) ≤ v8) (
  f_readPassed_87  I10 Ac7
  ) (
  m_bnd ((8 : Int32) * v8) (fun v11 =>
  m_bnd (v11 + v4) (fun v12 =>
  f_readPassed_88 v12 I10 Ac7))
  )
  )
  )
  )))))))))
  )))

set_option maxRecDepth 100000 in
set_option maxHeartbeats 4000000 in
theorem w_readPassed_0 {p : Program} {l : Launch} {e : Env} {s : State} {m : MethodId} {args : Array Value} {below : List Frame} {meth : Method} {c : Code} {Q : State → Prop} {D : va_G} {cy ci : ClassId} {h : Nat → Nat} {A0 : Nat → Prop} {o : Int32 × MS} (X : CallFix p m c cX12_readPassed 3 s args wsX12_readPassed RX12) (hret : mRi p l e ({ frames := 2, cells := 0, slots := 0, locals := 42 } : Room) s m args below meth c Q cX12_readPassed D cy ci h A0 .boolean o) {I : Nat → Int32} {A : Nat → Nat → Int32} {H : Heap} {locs : List Loc} {ls : Array Slot} (hf : f_readPassed_0  I A = some o) (hM : mH D cy ci h A0 s H locs I A) (hl : lv_has ls 3 [(0, .ref (h 0))]) : W p l e ({ frames := 2, cells := 0, slots := 0, locals := 42 } : Room) s m args below meth c H locs 0 0 Q (F0 m 0 ls []) := by
  obtain ⟨hx, hb, hml, hown, hts⟩ := id X
  unfold f_readPassed_0 at hf
  refine lv_aload_n hx hb dX12_readPassed_0 rfl (lv_at hl 0 rfl) ?_
  refine lv_iconst (v := (-1 : Int32)) hx hb dX12_readPassed_1 (by decide) ?_
  refine m_put X hw_readPassed hM 27 (by decide) fl_readPassed_27 mi_27 rfl (tyX12_ok 27 (by decide)) dX12_readPassed_2 (fun H locs hM => ?_)
  obtain ⟨I1, ev, hf⟩ := m_bndE hf
  replace hM := m_hI hM ev
  clear ev
  refine lv_aload_n hx hb dX12_readPassed_5 rfl (lv_at hl 0 rfl) ?_
  obtain ⟨o2, ho, hf⟩ := m_clE hf
  refine m_callVi X hM (c_sign ho) gX12_readPassed_X12_sign rfl ⟨rfl, rfl⟩ hd_sign ⟨Nat.le_of_ble_eq_true rfl, Nat.le_of_ble_eq_true rfl⟩ rfl hl.1 rfl (Nat.le_of_ble_eq_true rfl) dX12_readPassed_6 (fun H locs hM => ?_)
  clear ho
  refine lv_bipush (v := (45 : Int32)) hx hb dX12_readPassed_9 (by decide) ?_
  refine lv_icmp_ne (tgt := 21) hx hb dX12_readPassed_11 (by decide) (fun cc1 => ?_) (fun cc1 => ?_)
  · replace hf := m_ifF hf cc1
    refine lv_aload_n hx hb dX12_readPassed_21 rfl (lv_at hl 0 rfl) ?_
    obtain ⟨o3, ho, hf⟩ := m_clE hf
    refine m_callVi X hM (c_sign ho) gX12_readPassed_X12_sign rfl ⟨rfl, rfl⟩ hd_sign ⟨Nat.le_of_ble_eq_true rfl, Nat.le_of_ble_eq_true rfl⟩ rfl hl.1 rfl (Nat.le_of_ble_eq_true rfl) dX12_readPassed_22 (fun H locs hM => ?_)
    clear ho
    refine lv_bipush (v := (97 : Int32)) hx hb dX12_readPassed_25 (by decide) ?_
    refine lv_isub hx hb dX12_readPassed_27 ?_
    obtain ⟨v4, ev, hf⟩ := m_bndE hf
    refine m_top ev ?_
    clear ev
    refine lv_istore_n (lv' := [(1, .int v4), (0, .ref (h 0))]) hx hb dX12_readPassed_28 rfl hl (by decide) rfl (fun ls hl => ?_)
    refine lv_aload_n hx hb dX12_readPassed_29 rfl (lv_at hl 1 rfl) ?_
    refine lv_dup hx hb dX12_readPassed_30 rfl ?_
    refine m_get (v := .int (o3.2.1 38)) X hw_readPassed hM 38 (by decide) fl_readPassed_38 rfl dX12_readPassed_31 ?_
    refine lv_iconst (v := (1 : Int32)) hx hb dX12_readPassed_34 (by decide) ?_
    refine lv_iadd hx hb dX12_readPassed_35 ?_
    obtain ⟨v5, ev, hf⟩ := m_bndE hf
    refine m_top ev ?_
    clear ev
    refine m_put X hw_readPassed hM 38 (by decide) fl_readPassed_38 mi_38 rfl (tyX12_ok 38 (by decide)) dX12_readPassed_36 (fun H locs hM => ?_)
    obtain ⟨I6, ev, hf⟩ := m_bndE hf
    replace hM := m_hI hM ev
    clear ev
    refine lv_aload_n hx hb dX12_readPassed_39 rfl (lv_at hl 1 rfl) ?_
    obtain ⟨o7, ho, hf⟩ := m_clE hf
    refine m_callVi X hM (c_sign ho) gX12_readPassed_X12_sign rfl ⟨rfl, rfl⟩ hd_sign ⟨Nat.le_of_ble_eq_true rfl, Nat.le_of_ble_eq_true rfl⟩ rfl hl.1 rfl (Nat.le_of_ble_eq_true rfl) dX12_readPassed_40 (fun H locs hM => ?_)
    clear ho
    refine lv_bipush (v := (49 : Int32)) hx hb dX12_readPassed_43 (by decide) ?_
    refine lv_isub hx hb dX12_readPassed_45 ?_
    obtain ⟨v8, ev, hf⟩ := m_bndE hf
    refine m_top ev ?_
    clear ev
    refine lv_istore_n (lv' := [(2, .int v8), (1, .int v4), (0, .ref (h 0))]) hx hb dX12_readPassed_46 rfl hl (by decide) rfl (fun ls hl => ?_)
    refine lv_aload_n hx hb dX12_readPassed_47 rfl (lv_at hl 2 rfl) ?_
    refine lv_dup hx hb dX12_readPassed_48 rfl ?_
    refine m_get (v := .int (o7.2.1 38)) X hw_readPassed hM 38 (by decide) fl_readPassed_38 rfl dX12_readPassed_49 ?_
    refine lv_iconst (v := (1 : Int32)) hx hb dX12_readPassed_52 (by decide) ?_
    refine lv_iadd hx hb dX12_readPassed_53 ?_
    obtain ⟨v9, ev, hf⟩ := m_bndE hf
    refine m_top ev ?_
    clear ev
    refine m_put X hw_readPassed hM 38 (by decide) fl_readPassed_38 mi_38 rfl (tyX12_ok 38 (by decide)) dX12_readPassed_54 (fun H locs hM => ?_)
    obtain ⟨I10, ev, hf⟩ := m_bndE hf
    replace hM := m_hI hM ev
    clear ev
    refine lv_aload_n hx hb dX12_readPassed_57 rfl (lv_at hl 2 rfl) ?_
    refine lv_iload_n hx hb dX12_readPassed_58 rfl (lv_at hl 1 rfl) ?_
    refine lv_if_lt (tgt := 87) hx hb dX12_readPassed_59 (by decide) (fun cc1 => ?_) (fun cc1 => ?_)
    · replace hf := m_ifT hf cc1
      exact w_readPassed_87 X hret hf hM (lv_sub hl [2] rfl)
    · replace hf := m_ifF hf cc1
      refine lv_iload_n hx hb dX12_readPassed_62 rfl (lv_at hl 1 rfl) ?_
      refine lv_bipush (v := (8 : Int32)) hx hb dX12_readPassed_63 (by decide) ?_
      refine lv_icmp_ge (tgt := 87) hx hb dX12_readPassed_65 (by decide) (fun cc1 => ?_) (fun cc1 => ?_)
      · replace hf := m_ifT hf cc1
        exact w_readPassed_87 X hret hf hM (lv_sub hl [2] rfl)
      · replace hf := m_ifF hf cc1
        refine lv_iload_n hx hb dX12_readPassed_68 rfl (lv_at hl 0 rfl) ?_
        refine lv_if_lt (tgt := 87) hx hb dX12_readPassed_69 (by decide) (fun cc1 => ?_) (fun cc1 => ?_)
        · replace hf := m_ifT hf cc1
          exact w_readPassed_87 X hret hf hM (lv_sub hl [2] rfl)
        · replace hf := m_ifF hf cc1
          refine lv_iload_n hx hb dX12_readPassed_72 rfl (lv_at hl 0 rfl) ?_
          refine lv_bipush (v := (8 : Int32)) hx hb dX12_readPassed_73 (by decide) ?_
          refine lv_icmp_ge (tgt := 87) hx hb dX12_readPassed_75 (by decide) (fun cc1 => ?_) (fun cc1 => ?_)
          · replace hf := m_ifT hf cc1
            exact w_readPassed_87 X hret hf hM (lv_sub hl [2] rfl)
          · replace hf := m_ifF hf cc1
            refine lv_bipush (v := (8 : Int32)) hx hb dX12_readPassed_78 (by decide) ?_
            refine lv_iload_n hx hb dX12_readPassed_80 rfl (lv_at hl 0 rfl) ?_
            refine lv_imul hx hb dX12_readPassed_81 ?_
            obtain ⟨v11, ev, hf⟩ := m_bndE hf
            refine m_top ev ?_
            clear ev
            refine lv_iload_n hx hb dX12_readPassed_82 rfl (lv_at hl 1 rfl) ?_
            refine lv_iadd hx hb dX12_readPassed_83 ?_
            obtain ⟨v12, ev, hf⟩ := m_bndE hf
            refine m_top ev ?_
            clear ev
            refine lv_goto (tgt := 88) hx hb dX12_readPassed_84 (by decide) ?_
            exact w_readPassed_88 X hret hf hM (lv_sub hl [2] rfl)
  · replace hf := m_ifT hf cc1
    refine lv_aload_n hx hb dX12_readPassed_14 rfl (lv_at hl 0 rfl) ?_
    refine lv_bipush (v := (45 : Int32)) hx hb dX12_readPassed_15 (by decide) ?_
    obtain ⟨o13, ho, hf⟩ := m_clE hf
    refine m_callVi X hM (c_pass ho) gX12_readPassed_X12_pass rfl ⟨rfl, rfl⟩ hd_pass ⟨Nat.le_of_ble_eq_true rfl, Nat.le_of_ble_eq_true rfl⟩ rfl hl.1 rfl (Nat.le_of_ble_eq_true rfl) dX12_readPassed_17 (fun H locs hM => ?_)
    clear ho
    obtain ⟨cd, hf⟩ := m_chkE hf
    cases hf
    exact hret H locs _ ls hM (m_nb cd) dX12_readPassed_20
noncomputable def f_readPassed (I : Nat → Int32) (A : Nat → Nat → Int32) : Option (Int32 × MS) := f_readPassed_0  I A
theorem c_readPassed {l : Launch} {D : va_G} {cy ci : ClassId} {h : Nat → Nat} {I : Nat → Int32} {A : Nat → Nat → Int32} {o : Int32 × MS} (hf : f_readPassed  I A = some o) : mMi l yX12_readPassed wsX12_readPassed ({ frames := 2, cells := 0, slots := 0, locals := 42 } : Room) [.ref (h 0)] D cy ci h I A o :=
  m_entryI (cc := cX12_readPassed) (maxL := 3) (by decide) rfl rfl (Nat.le_of_ble_eq_true rfl) (fun p e s m args below meth c A0 Q H locs ls X hret hM hl => w_readPassed_0 X hret hf hM (lv_sub hl [0] rfl))
end
section
theorem hw_countOf : ∀ w ∈ wsX120, w ∈ wsX12_countOf := by decide +kernel
theorem fl_countOf_24 : Cond.fieldLink RX12 70 "MoveTextsModel" "men" "[I" ∈ wsX12_countOf := by decide +kernel
theorem hd_countOf : yX12_countOf.cls = RX12 ∧ yX12_countOf.cls ≠ "java/lang/invoke/MethodHandle" ∧ yX12_countOf.cls ≠ "java/lang/invoke/VarHandle" ∧ (parseMethodDescriptor yX12_countOf.desc).map (fun d => d.parameters.length) = some 1 := by decide +kernel
noncomputable def f_countOf_27 (self4 : Int32 → Int32 → Int32 → (Nat → Int32) → (Nat → Nat → Int32) → Option (Int32 × MS)) (x1 : Int32) (x3 : Int32) (t0 : Int32) (I : Nat → Int32) (A : Nat → Nat → Int32) : Option (Int32 × MS) :=
  m_bnd (x3 + (1 : Int32)) (fun v1 =>
  self4 x1 t0 v1 I A)

set_option maxRecDepth 100000 in
set_option maxHeartbeats 4000000 in
theorem w_countOf_27 {p : Program} {l : Launch} {e : Env} {s : State} {m : MethodId} {args : Array Value} {below : List Frame} {meth : Method} {c : Code} {Q : State → Prop} {D : va_G} {cy ci : ClassId} {h : Nat → Nat} {A0 : Nat → Prop} {o : Int32 × MS} (X : CallFix p m c cX12_countOf 4 s args wsX12_countOf RX12) (hret : mRi p l e ({ frames := 0, cells := 0, slots := 0, locals := 0 } : Room) s m args below meth c Q cX12_countOf D cy ci h A0 .int o) {self4 : Int32 → Int32 → Int32 → (Nat → Int32) → (Nat → Nat → Int32) → Option (Int32 × MS)} (hself4 : ∀ (x1 : Int32) (x2 : Int32) (x3 : Int32) (I : Nat → Int32) (A : Nat → Nat → Int32) (H : Heap) (locs : List Loc) (ls : Array Slot), self4 x1 x2 x3 I A = some o → mH D cy ci h A0 s H locs I A → lv_has ls 4 [(0, .ref (h 0)), (1, .int x1), (2, .int x2), (3, .int x3)] → W p l e ({ frames := 0, cells := 0, slots := 0, locals := 0 } : Room) s m args below meth c H locs 0 0 Q (F0 m 4 ls [])) {x1 : Int32} {x3 : Int32} {t0 : Int32} {I : Nat → Int32} {A : Nat → Nat → Int32} {H : Heap} {locs : List Loc} {ls : Array Slot} (hf : f_countOf_27 self4 x1 x3 t0 I A = some o) (hM : mH D cy ci h A0 s H locs I A) (hl : lv_has ls 4 [(0, .ref (h 0)), (1, .int x1), (3, .int x3)]) : W p l e ({ frames := 0, cells := 0, slots := 0, locals := 0 } : Room) s m args below meth c H locs 0 0 Q (F0 m 27 ls [.int t0]) := by
  obtain ⟨hx, hb, hml, hown, hts⟩ := id X
  unfold f_countOf_27 at hf
  refine lv_istore_n (lv' := [(2, .int t0), (0, .ref (h 0)), (1, .int x1), (3, .int x3)]) hx hb dX12_countOf_27 rfl hl (by decide) rfl (fun ls hl => ?_)
  obtain ⟨v1, ev, hf⟩ := m_bndE hf
  refine lv_iinc (v := v1) (lv' := [(3, .int v1), (2, .int t0), (0, .ref (h 0)), (1, .int x1)]) hx hb dX12_countOf_28 hl (k := 3) rfl (by rw [ev]; rfl) (by decide) rfl (fun ls hl => ?_)
  clear ev
  refine lv_goto (tgt := 4) hx hb dX12_countOf_31 (by decide) ?_
  exact hself4 _ _ _ _ _ _ _ _ hf hM (lv_sub hl [2, 3, 1, 0] rfl)
noncomputable def f_countOf_4s (self4 : Int32 → Int32 → Int32 → (Nat → Int32) → (Nat → Nat → Int32) → Option (Int32 × MS)) (x1 : Int32) (x2 : Int32) (x3 : Int32) (I : Nat → Int32) (A : Nat → Nat → Int32) : Option (Int32 × MS) :=
  m_if ((64 : Int32) ≤ x3) (
  some (x2, (I, A))
  ) (
  m_chk (¬ (x3 < 0 ∨ 64 ≤ (x3).toNatClampNeg)) (
  m_bnd (A 24 (x3).toNatClampNeg) (fun v1 =>
  m_if (v1 = x1) (
  m_bnd (x2 + (1 : Int32)) (fun v2 =>
  f_countOf_27 self4 x1 x3 v2 I A)
  ) (
  f_countOf_27 self4 x1 x3 x2 I A
  )))
  )

set_option maxRecDepth 100000 in
set_option maxHeartbeats 4000000 in
theorem ws_countOf_4 {p : Program} {l : Launch} {e : Env} {s : State} {m : MethodId} {args : Array Value} {below : List Frame} {meth : Method} {c : Code} {Q : State → Prop} {D : va_G} {cy ci : ClassId} {h : Nat → Nat} {A0 : Nat → Prop} {o : Int32 × MS} (X : CallFix p m c cX12_countOf 4 s args wsX12_countOf RX12) (hret : mRi p l e ({ frames := 0, cells := 0, slots := 0, locals := 0 } : Room) s m args below meth c Q cX12_countOf D cy ci h A0 .int o) {self4 : Int32 → Int32 → Int32 → (Nat → Int32) → (Nat → Nat → Int32) → Option (Int32 × MS)} (hself4 : ∀ (x1 : Int32) (x2 : Int32) (x3 : Int32) (I : Nat → Int32) (A : Nat → Nat → Int32) (H : Heap) (locs : List Loc) (ls : Array Slot), self4 x1 x2 x3 I A = some o → mH D cy ci h A0 s H locs I A → lv_has ls 4 [(0, .ref (h 0)), (1, .int x1), (2, .int x2), (3, .int x3)] → W p l e ({ frames := 0, cells := 0, slots := 0, locals := 0 } : Room) s m args below meth c H locs 0 0 Q (F0 m 4 ls [])) {x1 : Int32} {x2 : Int32} {x3 : Int32} {I : Nat → Int32} {A : Nat → Nat → Int32} {H : Heap} {locs : List Loc} {ls : Array Slot} (hf : f_countOf_4s self4 x1 x2 x3 I A = some o) (hM : mH D cy ci h A0 s H locs I A) (hl : lv_has ls 4 [(0, .ref (h 0)), (1, .int x1), (2, .int x2), (3, .int x3)]) : W p l e ({ frames := 0, cells := 0, slots := 0, locals := 0 } : Room) s m args below meth c H locs 0 0 Q (F0 m 4 ls []) := by
  obtain ⟨hx, hb, hml, hown, hts⟩ := id X
  unfold f_countOf_4s at hf
  refine lv_iload_n hx hb dX12_countOf_4 rfl (lv_at hl 3 rfl) ?_
  refine lv_bipush (v := (64 : Int32)) hx hb dX12_countOf_5 (by decide) ?_
  refine lv_icmp_ge (tgt := 34) hx hb dX12_countOf_7 (by decide) (fun cc1 => ?_) (fun cc1 => ?_)
  · replace hf := m_ifT hf cc1
    refine lv_iload_n hx hb dX12_countOf_34 rfl (lv_at hl 2 rfl) ?_
    cases hf
    exact hret H locs _ ls hM rfl dX12_countOf_35
  · replace hf := m_ifF hf cc1
    refine lv_aload_n hx hb dX12_countOf_10 rfl (lv_at hl 0 rfl) ?_
    refine m_get (v := .ref (h 24)) X hw_countOf hM 24 (by decide) fl_countOf_24 rfl dX12_countOf_11 ?_
    refine lv_iload_n hx hb dX12_countOf_14 rfl (lv_at hl 3 rfl) ?_
    obtain ⟨cd, hf⟩ := m_chkE hf
    refine m_iald X hM 24 20 64 rfl cd dX12_countOf_15 ?_
    clear cd
    obtain ⟨v1, ev, hf⟩ := m_bndE hf
    refine m_top ev ?_
    clear ev
    refine lv_iload_n hx hb dX12_countOf_16 rfl (lv_at hl 1 rfl) ?_
    refine lv_icmp_ne (tgt := 26) hx hb dX12_countOf_17 (by decide) (fun cc1 => ?_) (fun cc1 => ?_)
    · replace hf := m_ifF hf cc1
      refine lv_iload_n hx hb dX12_countOf_26 rfl (lv_at hl 2 rfl) ?_
      exact w_countOf_27 X hret hself4 hf hM (lv_sub hl [0, 1, 3] rfl)
    · replace hf := m_ifT hf cc1
      refine lv_iload_n hx hb dX12_countOf_20 rfl (lv_at hl 2 rfl) ?_
      refine lv_iconst (v := (1 : Int32)) hx hb dX12_countOf_21 (by decide) ?_
      refine lv_iadd hx hb dX12_countOf_22 ?_
      obtain ⟨v2, ev, hf⟩ := m_bndE hf
      refine m_top ev ?_
      clear ev
      refine lv_goto (tgt := 27) hx hb dX12_countOf_23 (by decide) ?_
      exact w_countOf_27 X hret hself4 hf hM (lv_sub hl [0, 1, 3] rfl)
noncomputable def f_countOf_4 : Nat → Int32 → Int32 → Int32 → (Nat → Int32) → (Nat → Nat → Int32) → Option (Int32 × MS)
  | 0 => fun _ _ _ _ _ => none
  | n + 1 => f_countOf_4s (f_countOf_4 n)
theorem w_countOf_4 {p : Program} {l : Launch} {e : Env} {s : State} {m : MethodId} {args : Array Value} {below : List Frame} {meth : Method} {c : Code} {Q : State → Prop} {D : va_G} {cy ci : ClassId} {h : Nat → Nat} {A0 : Nat → Prop} {o : Int32 × MS} (X : CallFix p m c cX12_countOf 4 s args wsX12_countOf RX12) (hret : mRi p l e ({ frames := 0, cells := 0, slots := 0, locals := 0 } : Room) s m args below meth c Q cX12_countOf D cy ci h A0 .int o) (n : Nat) : ∀ (x1 : Int32) (x2 : Int32) (x3 : Int32) (I : Nat → Int32) (A : Nat → Nat → Int32) (H : Heap) (locs : List Loc) (ls : Array Slot), f_countOf_4 n x1 x2 x3 I A = some o → mH D cy ci h A0 s H locs I A → lv_has ls 4 [(0, .ref (h 0)), (1, .int x1), (2, .int x2), (3, .int x3)] → W p l e ({ frames := 0, cells := 0, slots := 0, locals := 0 } : Room) s m args below meth c H locs 0 0 Q (F0 m 4 ls []) := by
  induction n with
  | zero => intro x1 x2 x3 I A H locs ls hf; cases hf
  | succ n ih => intro x1 x2 x3 I A H locs ls hf hM hl; exact ws_countOf_4 X hret (self4 := f_countOf_4 n) ih hf hM hl
noncomputable def f_countOf_0 (x1 : Int32) (I : Nat → Int32) (A : Nat → Nat → Int32) : Option (Int32 × MS) :=
  f_countOf_4 mFuel x1 (0 : Int32) (0 : Int32) I A

set_option maxRecDepth 100000 in
set_option maxHeartbeats 4000000 in
theorem w_countOf_0 {p : Program} {l : Launch} {e : Env} {s : State} {m : MethodId} {args : Array Value} {below : List Frame} {meth : Method} {c : Code} {Q : State → Prop} {D : va_G} {cy ci : ClassId} {h : Nat → Nat} {A0 : Nat → Prop} {o : Int32 × MS} (X : CallFix p m c cX12_countOf 4 s args wsX12_countOf RX12) (hret : mRi p l e ({ frames := 0, cells := 0, slots := 0, locals := 0 } : Room) s m args below meth c Q cX12_countOf D cy ci h A0 .int o) {x1 : Int32} {I : Nat → Int32} {A : Nat → Nat → Int32} {H : Heap} {locs : List Loc} {ls : Array Slot} (hf : f_countOf_0 x1 I A = some o) (hM : mH D cy ci h A0 s H locs I A) (hl : lv_has ls 4 [(0, .ref (h 0)), (1, .int x1)]) : W p l e ({ frames := 0, cells := 0, slots := 0, locals := 0 } : Room) s m args below meth c H locs 0 0 Q (F0 m 0 ls []) := by
  obtain ⟨hx, hb, hml, hown, hts⟩ := id X
  unfold f_countOf_0 at hf
  refine lv_iconst (v := (0 : Int32)) hx hb dX12_countOf_0 (by decide) ?_
  refine lv_istore_n (lv' := [(2, .int (0 : Int32)), (0, .ref (h 0)), (1, .int x1)]) hx hb dX12_countOf_1 rfl hl (by decide) rfl (fun ls hl => ?_)
  refine lv_iconst (v := (0 : Int32)) hx hb dX12_countOf_2 (by decide) ?_
  refine lv_istore_n (lv' := [(3, .int (0 : Int32)), (2, .int (0 : Int32)), (0, .ref (h 0)), (1, .int x1)]) hx hb dX12_countOf_3 rfl hl (by decide) rfl (fun ls hl => ?_)
  exact w_countOf_4 X hret _ _ _ _ _ _ _ _ _ hf hM (lv_sub hl [2, 3, 1, 0] rfl)
noncomputable def f_countOf (x1 : Int32) (I : Nat → Int32) (A : Nat → Nat → Int32) : Option (Int32 × MS) := f_countOf_0 x1 I A
theorem c_countOf {l : Launch} {D : va_G} {cy ci : ClassId} {h : Nat → Nat} {x1 : Int32} {I : Nat → Int32} {A : Nat → Nat → Int32} {o : Int32 × MS} (hf : f_countOf x1 I A = some o) : mMi l yX12_countOf wsX12_countOf ({ frames := 0, cells := 0, slots := 0, locals := 0 } : Room) [.ref (h 0), .int x1] D cy ci h I A o :=
  m_entryI (cc := cX12_countOf) (maxL := 4) (by decide) rfl rfl (Nat.le_of_ble_eq_true rfl) (fun p e s m args below meth c A0 Q H locs ls X hret hM hl => w_countOf_0 X hret hf hM (lv_sub hl [0, 1] rfl))
theorem hw_mayStand : ∀ w ∈ wsX120, w ∈ wsX12_mayStand := by decide +kernel
theorem fl_mayStand_24 : Cond.fieldLink RX12 70 "MoveTextsModel" "men" "[I" ∈ wsX12_mayStand := by decide +kernel
theorem fl_mayStand_25 : Cond.fieldLink RX12 121 "MoveTextsModel" "side" "I" ∈ wsX12_mayStand := by decide +kernel
theorem fl_mayStand_26 : Cond.fieldLink RX12 124 "MoveTextsModel" "rights" "I" ∈ wsX12_mayStand := by decide +kernel
theorem fl_mayStand_27 : Cond.fieldLink RX12 127 "MoveTextsModel" "passed" "I" ∈ wsX12_mayStand := by decide +kernel
theorem hd_mayStand : yX12_mayStand.cls = RX12 ∧ yX12_mayStand.cls ≠ "java/lang/invoke/MethodHandle" ∧ yX12_mayStand.cls ≠ "java/lang/invoke/VarHandle" ∧ (parseMethodDescriptor yX12_mayStand.desc).map (fun d => d.parameters.length) = some 0 := by decide +kernel
noncomputable def f_mayStand_20 (I : Nat → Int32) (A : Nat → Nat → Int32) : Option (Int32 × MS) :=
  m_chk (vp_nar .boolean (0 : Int32) = (0 : Int32)) (some ((0 : Int32), (I, A)))

set_option maxRecDepth 100000 in
set_option maxHeartbeats 4000000 in
theorem w_mayStand_20 {p : Program} {l : Launch} {e : Env} {s : State} {m : MethodId} {args : Array Value} {below : List Frame} {meth : Method} {c : Code} {Q : State → Prop} {D : va_G} {cy ci : ClassId} {h : Nat → Nat} {A0 : Nat → Prop} {o : Int32 × MS} (X : CallFix p m c cX12_mayStand 5 s args wsX12_mayStand RX12) (hret : mRi p l e ({ frames := 4, cells := 0, slots := 0, locals := 98 } : Room) s m args below meth c Q cX12_mayStand D cy ci h A0 .boolean o) {I : Nat → Int32} {A : Nat → Nat → Int32} {H : Heap} {locs : List Loc} {ls : Array Slot} (hf : f_mayStand_20  I A = some o) (hM : mH D cy ci h A0 s H locs I A) (hl : lv_has ls 5 []) : W p l e ({ frames := 4, cells := 0, slots := 0, locals := 98 } : Room) s m args below meth c H locs 0 0 Q (F0 m 20 ls []) := by
  obtain ⟨hx, hb, hml, hown, hts⟩ := id X
  unfold f_mayStand_20 at hf
  refine lv_iconst (v := (0 : Int32)) hx hb dX12_mayStand_20 (by decide) ?_
  obtain ⟨cd, hf⟩ := m_chkE hf
  cases hf
  exact hret H locs _ ls hM (m_nb cd) dX12_mayStand_21
noncomputable def f_mayStand_202 (x1 : Int32) (I : Nat → Int32) (A : Nat → Nat → Int32) : Option (Int32 × MS) :=
  m_chk (vp_nar .boolean x1 = x1) (some (x1, (I, A)))

set_option maxRecDepth 100000 in
set_option maxHeartbeats 4000000 in
theorem w_mayStand_202 {p : Program} {l : Launch} {e : Env} {s : State} {m : MethodId} {args : Array Value} {below : List Frame} {meth : Method} {c : Code} {Q : State → Prop} {D : va_G} {cy ci : ClassId} {h : Nat → Nat} {A0 : Nat → Prop} {o : Int32 × MS} (X : CallFix p m c cX12_mayStand 5 s args wsX12_mayStand RX12) (hret : mRi p l e ({ frames := 4, cells := 0, slots := 0, locals := 98 } : Room) s m args below meth c Q cX12_mayStand D cy ci h A0 .boolean o) {x1 : Int32} {I : Nat → Int32} {A : Nat → Nat → Int32} {H : Heap} {locs : List Loc} {ls : Array Slot} (hf : f_mayStand_202 x1 I A = some o) (hM : mH D cy ci h A0 s H locs I A) (hl : lv_has ls 5 [(1, .int x1)]) : W p l e ({ frames := 4, cells := 0, slots := 0, locals := 98 } : Room) s m args below meth c H locs 0 0 Q (F0 m 202 ls []) := by
  obtain ⟨hx, hb, hml, hown, hts⟩ := id X
  unfold f_mayStand_202 at hf
  refine lv_iload_n hx hb dX12_mayStand_202 rfl (lv_at hl 0 rfl) ?_
  obtain ⟨cd, hf⟩ := m_chkE hf
  cases hf
  exact hret H locs _ ls hM (m_nb cd) dX12_mayStand_203
noncomputable def f_mayStand_383 (t0 : Int32) (I : Nat → Int32) (A : Nat → Nat → Int32) : Option (Int32 × MS) :=
  m_chk (vp_nar .boolean t0 = t0) (some (t0, (I, A)))

set_option maxRecDepth 100000 in
set_option maxHeartbeats 4000000 in
theorem w_mayStand_383 {p : Program} {l : Launch} {e : Env} {s : State} {m : MethodId} {args : Array Value} {below : List Frame} {meth : Method} {c : Code} {Q : State → Prop} {D : va_G} {cy ci : ClassId} {h : Nat → Nat} {A0 : Nat → Prop} {o : Int32 × MS} (X : CallFix p m c cX12_mayStand 5 s args wsX12_mayStand RX12) (hret : mRi p l e ({ frames := 4, cells := 0, slots := 0, locals := 98 } : Room) s m args below meth c Q cX12_mayStand D cy ci h A0 .boolean o) {t0 : Int32} {I : Nat → Int32} {A : Nat → Nat → Int32} {H : Heap} {locs : List Loc} {ls : Array Slot} (hf : f_mayStand_383 t0 I A = some o) (hM : mH D cy ci h A0 s H locs I A) (hl : lv_has ls 5 []) : W p l e ({ frames := 4, cells := 0, slots := 0, locals := 98 } : Room) s m args below meth c H locs 0 0 Q (F0 m 383 ls [.int t0]) := by
  obtain ⟨hx, hb, hml, hown, hts⟩ := id X
  unfold f_mayStand_383 at hf
  obtain ⟨cd, hf⟩ := m_chkE hf
  cases hf
  exact hret H locs _ ls hM (m_nb cd) dX12_mayStand_383
noncomputable def f_mayStand_382 (I : Nat → Int32) (A : Nat → Nat → Int32) : Option (Int32 × MS) :=
  f_mayStand_383 (0 : Int32) I A

set_option maxRecDepth 100000 in
set_option maxHeartbeats 4000000 in
theorem w_mayStand_382 {p : Program} {l : Launch} {e : Env} {s : State} {m : MethodId} {args : Array Value} {below : List Frame} {meth : Method} {c : Code} {Q : State → Prop} {D : va_G} {cy ci : ClassId} {h : Nat → Nat} {A0 : Nat → Prop} {o : Int32 × MS} (X : CallFix p m c cX12_mayStand 5 s args wsX12_mayStand RX12) (hret : mRi p l e ({ frames := 4, cells := 0, slots := 0, locals := 98 } : Room) s m args below meth c Q cX12_mayStand D cy ci h A0 .boolean o) {I : Nat → Int32} {A : Nat → Nat → Int32} {H : Heap} {locs : List Loc} {ls : Array Slot} (hf : f_mayStand_382  I A = some o) (hM : mH D cy ci h A0 s H locs I A) (hl : lv_has ls 5 []) : W p l e ({ frames := 4, cells := 0, slots := 0, locals := 98 } : Room) s m args below meth c H locs 0 0 Q (F0 m 382 ls []) := by
  obtain ⟨hx, hb, hml, hown, hts⟩ := id X
  unfold f_mayStand_382 at hf
  refine lv_iconst (v := (0 : Int32)) hx hb dX12_mayStand_382 (by decide) ?_
  exact w_mayStand_383 X hret hf hM (lv_sub hl [] rfl)
noncomputable def f_mayStand_378 (I : Nat → Int32) (A : Nat → Nat → Int32) : Option (Int32 × MS) :=
  f_mayStand_383 (1 : Int32) I A

set_option maxRecDepth 100000 in
set_option maxHeartbeats 4000000 in
theorem w_mayStand_378 {p : Program} {l : Launch} {e : Env} {s : State} {m : MethodId} {args : Array Value} {below : List Frame} {meth : Method} {c : Code} {Q : State → Prop} {D : va_G} {cy ci : ClassId} {h : Nat → Nat} {A0 : Nat → Prop} {o : Int32 × MS} (X : CallFix p m c cX12_mayStand 5 s args wsX12_mayStand RX12) (hret : mRi p l e ({ frames := 4, cells := 0, slots := 0, locals := 98 } : Room) s m args below meth c Q cX12_mayStand D cy ci h A0 .boolean o) {I : Nat → Int32} {A : Nat → Nat → Int32} {H : Heap} {locs : List Loc} {ls : Array Slot} (hf : f_mayStand_378  I A = some o) (hM : mH D cy ci h A0 s H locs I A) (hl : lv_has ls 5 []) : W p l e ({ frames := 4, cells := 0, slots := 0, locals := 98 } : Room) s m args below meth c H locs 0 0 Q (F0 m 378 ls []) := by
  obtain ⟨hx, hb, hml, hown, hts⟩ := id X
  unfold f_mayStand_378 at hf
  refine lv_iconst (v := (1 : Int32)) hx hb dX12_mayStand_378 (by decide) ?_
  refine lv_goto (tgt := 383) hx hb dX12_mayStand_379 (by decide) ?_
  exact w_mayStand_383 X hret hf hM (lv_sub hl [] rfl)
noncomputable def f_mayStand_320 (x3 : Int32) (t0 : Int32) (I : Nat → Int32) (A : Nat → Nat → Int32) : Option (Int32 × MS) :=
  m_if (x3 = 0) (
  f_mayStand_382  I A
  ) (
  m_cl (f_step (I 27) (-1 : Int32) t0 I A) (fun r1 Ic1 Ac1 =>
  m_bnd ((8 : Int32) * (Ic1 25)) (fun v2 =>
  m_bnd ((1 : Int32) + v2) (fun v3 =>
  m_cl (f_stands r1 v3 Ic1 Ac1) (fun r4 Ic4 Ac4 =>
  m_if (r4 = 0) (
  m_cl (f_step (Ic4 27) (1 : Int32) t0 Ic4 Ac4) (fun r5 Ic5 Ac5 =>
  m_bnd ((8 : Int32) * (Ic5 25)) (fun v6 =>
  m_bnd ((1 : Int32) + v6) (fun v7 =>
  m_cl (f_stands r5 v7 Ic5 Ac5) (fun r8 Ic8 Ac8 =>
  m_if (r8 = 0) (
  f_mayStand_382  Ic8 Ac8
  ) (
  f_mayStand_378  Ic8 Ac8
  )))))
  ) (
  f_mayStand_378  Ic4 Ac4
  )))))
  )

set_option maxRecDepth 100000 in
set_option maxHeartbeats 4000000 in
theorem w_mayStand_320 {p : Program} {l : Launch} {e : Env} {s : State} {m : MethodId} {args : Array Value} {below : List Frame} {meth : Method} {c : Code} {Q : State → Prop} {D : va_G} {cy ci : ClassId} {h : Nat → Nat} {A0 : Nat → Prop} {o : Int32 × MS} (X : CallFix p m c cX12_mayStand 5 s args wsX12_mayStand RX12) (hret : mRi p l e ({ frames := 4, cells := 0, slots := 0, locals := 98 } : Room) s m args below meth c Q cX12_mayStand D cy ci h A0 .boolean o) {x3 : Int32} {t0 : Int32} {I : Nat → Int32} {A : Nat → Nat → Int32} {H : Heap} {locs : List Loc} {ls : Array Slot} (hf : f_mayStand_320 x3 t0 I A = some o) (hM : mH D cy ci h A0 s H locs I A) (hl : lv_has ls 5 [(0, .ref (h 0)), (3, .int x3)]) : W p l e ({ frames := 4, cells := 0, slots := 0, locals := 98 } : Room) s m args below meth c H locs 0 0 Q (F0 m 320 ls [.int t0]) := by
  obtain ⟨hx, hb, hml, hown, hts⟩ := id X
  unfold f_mayStand_320 at hf
  refine lv_istore (lv' := [(4, .int t0), (0, .ref (h 0)), (3, .int x3)]) hx hb dX12_mayStand_320 hl (by decide) rfl (fun ls hl => ?_)
  refine lv_iload_n hx hb dX12_mayStand_322 rfl (lv_at hl 2 rfl) ?_
  refine lv_if_eq (tgt := 382) hx hb dX12_mayStand_323 (by decide) (fun cc1 => ?_) (fun cc1 => ?_)
  · replace hf := m_ifT hf cc1
    exact w_mayStand_382 X hret hf hM (lv_sub hl [] rfl)
  · replace hf := m_ifF hf cc1
    refine lv_aload_n hx hb dX12_mayStand_326 rfl (lv_at hl 1 rfl) ?_
    refine lv_aload_n hx hb dX12_mayStand_327 rfl (lv_at hl 1 rfl) ?_
    refine m_get (v := .int (I 27)) X hw_mayStand hM 27 (by decide) fl_mayStand_27 rfl dX12_mayStand_328 ?_
    refine lv_iconst (v := (-1 : Int32)) hx hb dX12_mayStand_331 (by decide) ?_
    refine lv_iload hx hb dX12_mayStand_332 (lv_at hl 0 rfl) ?_
    obtain ⟨o1, ho, hf⟩ := m_clE hf
    refine m_callSi X hM (c_step ho) gX12_mayStand_X12_step rfl ⟨rfl, rfl⟩ hd_step ⟨Nat.le_of_ble_eq_true rfl, Nat.le_of_ble_eq_true rfl⟩ rfl hl.1 rfl (Nat.le_of_ble_eq_true rfl) dX12_mayStand_334 (fun H locs hM => ?_)
    clear ho
    refine lv_iconst (v := (1 : Int32)) hx hb dX12_mayStand_337 (by decide) ?_
    refine lv_bipush (v := (8 : Int32)) hx hb dX12_mayStand_338 (by decide) ?_
    refine lv_aload_n hx hb dX12_mayStand_340 rfl (lv_at hl 1 rfl) ?_
    refine m_get (v := .int (o1.2.1 25)) X hw_mayStand hM 25 (by decide) fl_mayStand_25 rfl dX12_mayStand_341 ?_
    refine lv_imul hx hb dX12_mayStand_344 ?_
    obtain ⟨v2, ev, hf⟩ := m_bndE hf
    refine m_top ev ?_
    clear ev
    refine lv_iadd hx hb dX12_mayStand_345 ?_
    obtain ⟨v3, ev, hf⟩ := m_bndE hf
    refine m_top ev ?_
    clear ev
    obtain ⟨o4, ho, hf⟩ := m_clE hf
    refine m_callVi X hM (c_stands ho) gX12_mayStand_X12_stands rfl ⟨rfl, rfl⟩ hd_stands ⟨Nat.le_of_ble_eq_true rfl, Nat.le_of_ble_eq_true rfl⟩ rfl hl.1 rfl (Nat.le_of_ble_eq_true rfl) dX12_mayStand_346 (fun H locs hM => ?_)
    clear ho
    refine lv_if_ne (tgt := 378) hx hb dX12_mayStand_349 (by decide) (fun cc1 => ?_) (fun cc1 => ?_)
    · replace hf := m_ifF hf cc1
      exact w_mayStand_378 X hret hf hM (lv_sub hl [] rfl)
    · replace hf := m_ifT hf cc1
      refine lv_aload_n hx hb dX12_mayStand_352 rfl (lv_at hl 1 rfl) ?_
      refine lv_aload_n hx hb dX12_mayStand_353 rfl (lv_at hl 1 rfl) ?_
      refine m_get (v := .int (o4.2.1 27)) X hw_mayStand hM 27 (by decide) fl_mayStand_27 rfl dX12_mayStand_354 ?_
      refine lv_iconst (v := (1 : Int32)) hx hb dX12_mayStand_357 (by decide) ?_
      refine lv_iload hx hb dX12_mayStand_358 (lv_at hl 0 rfl) ?_
      obtain ⟨o5, ho, hf⟩ := m_clE hf
      refine m_callSi X hM (c_step ho) gX12_mayStand_X12_step rfl ⟨rfl, rfl⟩ hd_step ⟨Nat.le_of_ble_eq_true rfl, Nat.le_of_ble_eq_true rfl⟩ rfl hl.1 rfl (Nat.le_of_ble_eq_true rfl) dX12_mayStand_360 (fun H locs hM => ?_)
      clear ho
      refine lv_iconst (v := (1 : Int32)) hx hb dX12_mayStand_363 (by decide) ?_
      refine lv_bipush (v := (8 : Int32)) hx hb dX12_mayStand_364 (by decide) ?_
      refine lv_aload_n hx hb dX12_mayStand_366 rfl (lv_at hl 1 rfl) ?_
      refine m_get (v := .int (o5.2.1 25)) X hw_mayStand hM 25 (by decide) fl_mayStand_25 rfl dX12_mayStand_367 ?_
      refine lv_imul hx hb dX12_mayStand_370 ?_
      obtain ⟨v6, ev, hf⟩ := m_bndE hf
      refine m_top ev ?_
      clear ev
      refine lv_iadd hx hb dX12_mayStand_371 ?_
      obtain ⟨v7, ev, hf⟩ := m_bndE hf
      refine m_top ev ?_
      clear ev
      obtain ⟨o8, ho, hf⟩ := m_clE hf
      refine m_callVi X hM (c_stands ho) gX12_mayStand_X12_stands rfl ⟨rfl, rfl⟩ hd_stands ⟨Nat.le_of_ble_eq_true rfl, Nat.le_of_ble_eq_true rfl⟩ rfl hl.1 rfl (Nat.le_of_ble_eq_true rfl) dX12_mayStand_372 (fun H locs hM => ?_)
      clear ho
      refine lv_if_eq (tgt := 382) hx hb dX12_mayStand_375 (by decide) (fun cc1 => ?_) (fun cc1 => ?_)
      · replace hf := m_ifT hf cc1
        exact w_mayStand_382 X hret hf hM (lv_sub hl [] rfl)
      · replace hf := m_ifF hf cc1
        exact w_mayStand_378 X hret hf hM (lv_sub hl [] rfl)
noncomputable def f_mayStand_307 (t0 : Int32) (I : Nat → Int32) (A : Nat → Nat → Int32) : Option (Int32 × MS) :=
  m_if ((I 25) = 0) (
  f_mayStand_320 t0 (-1 : Int32) I A
  ) (
  f_mayStand_320 t0 (1 : Int32) I A
  )

set_option maxRecDepth 100000 in
set_option maxHeartbeats 4000000 in
theorem w_mayStand_307 {p : Program} {l : Launch} {e : Env} {s : State} {m : MethodId} {args : Array Value} {below : List Frame} {meth : Method} {c : Code} {Q : State → Prop} {D : va_G} {cy ci : ClassId} {h : Nat → Nat} {A0 : Nat → Prop} {o : Int32 × MS} (X : CallFix p m c cX12_mayStand 5 s args wsX12_mayStand RX12) (hret : mRi p l e ({ frames := 4, cells := 0, slots := 0, locals := 98 } : Room) s m args below meth c Q cX12_mayStand D cy ci h A0 .boolean o) {t0 : Int32} {I : Nat → Int32} {A : Nat → Nat → Int32} {H : Heap} {locs : List Loc} {ls : Array Slot} (hf : f_mayStand_307 t0 I A = some o) (hM : mH D cy ci h A0 s H locs I A) (hl : lv_has ls 5 [(0, .ref (h 0))]) : W p l e ({ frames := 4, cells := 0, slots := 0, locals := 98 } : Room) s m args below meth c H locs 0 0 Q (F0 m 307 ls [.int t0]) := by
  obtain ⟨hx, hb, hml, hown, hts⟩ := id X
  unfold f_mayStand_307 at hf
  refine lv_istore_n (lv' := [(3, .int t0), (0, .ref (h 0))]) hx hb dX12_mayStand_307 rfl hl (by decide) rfl (fun ls hl => ?_)
  refine lv_aload_n hx hb dX12_mayStand_308 rfl (lv_at hl 1 rfl) ?_
  refine m_get (v := .int (I 25)) X hw_mayStand hM 25 (by decide) fl_mayStand_25 rfl dX12_mayStand_309 ?_
  refine lv_if_ne (tgt := 319) hx hb dX12_mayStand_312 (by decide) (fun cc1 => ?_) (fun cc1 => ?_)
  · replace hf := m_ifF hf cc1
    refine lv_iconst (v := (1 : Int32)) hx hb dX12_mayStand_319 (by decide) ?_
    exact w_mayStand_320 X hret hf hM (lv_sub hl [1, 0] rfl)
  · replace hf := m_ifT hf cc1
    refine lv_iconst (v := (-1 : Int32)) hx hb dX12_mayStand_315 (by decide) ?_
    refine lv_goto (tgt := 320) hx hb dX12_mayStand_316 (by decide) ?_
    exact w_mayStand_320 X hret hf hM (lv_sub hl [1, 0] rfl)
noncomputable def f_mayStand_306 (I : Nat → Int32) (A : Nat → Nat → Int32) : Option (Int32 × MS) :=
  f_mayStand_307 (0 : Int32) I A

set_option maxRecDepth 100000 in
set_option maxHeartbeats 4000000 in
theorem w_mayStand_306 {p : Program} {l : Launch} {e : Env} {s : State} {m : MethodId} {args : Array Value} {below : List Frame} {meth : Method} {c : Code} {Q : State → Prop} {D : va_G} {cy ci : ClassId} {h : Nat → Nat} {A0 : Nat → Prop} {o : Int32 × MS} (X : CallFix p m c cX12_mayStand 5 s args wsX12_mayStand RX12) (hret : mRi p l e ({ frames := 4, cells := 0, slots := 0, locals := 98 } : Room) s m args below meth c Q cX12_mayStand D cy ci h A0 .boolean o) {I : Nat → Int32} {A : Nat → Nat → Int32} {H : Heap} {locs : List Loc} {ls : Array Slot} (hf : f_mayStand_306  I A = some o) (hM : mH D cy ci h A0 s H locs I A) (hl : lv_has ls 5 [(0, .ref (h 0))]) : W p l e ({ frames := 4, cells := 0, slots := 0, locals := 98 } : Room) s m args below meth c H locs 0 0 Q (F0 m 306 ls []) := by
  obtain ⟨hx, hb, hml, hown, hts⟩ := id X
  unfold f_mayStand_306 at hf
  refine lv_iconst (v := (0 : Int32)) hx hb dX12_mayStand_306 (by decide) ?_
  exact w_mayStand_307 X hret hf hM (lv_sub hl [0] rfl)
noncomputable def f_mayStand_258 (x2 : Int32) (t0 : Int32) (I : Nat → Int32) (A : Nat → Nat → Int32) : Option (Int32 × MS) :=
  m_if (t0 = 0) (
  f_mayStand_306  I A
  ) (
  m_bnd ((I 27) + x2) (fun v1 =>
  m_chk (¬ (v1 < 0 ∨ 64 ≤ (v1).toNatClampNeg)) (
  m_bnd (A 24 (v1).toNatClampNeg) (fun v2 =>
  m_if (v2 = 0) (
  m_bnd ((I 27) - x2) (fun v3 =>
  m_chk (¬ (v3 < 0 ∨ 64 ≤ (v3).toNatClampNeg)) (
  m_bnd (A 24 (v3).toNatClampNeg) (fun v4 =>
  m_bnd ((1 : Int32) - (I 25)) (fun v5 =>
  m_bnd ((8 : Int32) * v5) (fun v6 =>
  m_bnd ((1 : Int32) + v6) (fun v7 =>
  m_if (v4 = v7) (
  f_mayStand_307 (1 : Int32) I A
  ) (
  f_mayStand_306  I A
  )))))))
  ) (
  f_mayStand_306  I A
  ))))
  )

set_option maxRecDepth 100000 in
set_option maxHeartbeats 4000000 in
theorem w_mayStand_258 {p : Program} {l : Launch} {e : Env} {s : State} {m : MethodId} {args : Array Value} {below : List Frame} {meth : Method} {c : Code} {Q : State → Prop} {D : va_G} {cy ci : ClassId} {h : Nat → Nat} {A0 : Nat → Prop} {o : Int32 × MS} (X : CallFix p m c cX12_mayStand 5 s args wsX12_mayStand RX12) (hret : mRi p l e ({ frames := 4, cells := 0, slots := 0, locals := 98 } : Room) s m args below meth c Q cX12_mayStand D cy ci h A0 .boolean o) {x2 : Int32} {t0 : Int32} {I : Nat → Int32} {A : Nat → Nat → Int32} {H : Heap} {locs : List Loc} {ls : Array Slot} (hf : f_mayStand_258 x2 t0 I A = some o) (hM : mH D cy ci h A0 s H locs I A) (hl : lv_has ls 5 [(0, .ref (h 0)), (2, .int x2)]) : W p l e ({ frames := 4, cells := 0, slots := 0, locals := 98 } : Room) s m args below meth c H locs 0 0 Q (F0 m 258 ls [.int t0]) := by
  obtain ⟨hx, hb, hml, hown, hts⟩ := id X
  unfold f_mayStand_258 at hf
  refine lv_istore_n (lv' := [(3, .int t0), (0, .ref (h 0)), (2, .int x2)]) hx hb dX12_mayStand_258 rfl hl (by decide) rfl (fun ls hl => ?_)
  refine lv_iload_n hx hb dX12_mayStand_259 rfl (lv_at hl 0 rfl) ?_
  refine lv_if_eq (tgt := 306) hx hb dX12_mayStand_260 (by decide) (fun cc1 => ?_) (fun cc1 => ?_)
  · replace hf := m_ifT hf cc1
    exact w_mayStand_306 X hret hf hM (lv_sub hl [1] rfl)
  · replace hf := m_ifF hf cc1
    refine lv_aload_n hx hb dX12_mayStand_263 rfl (lv_at hl 1 rfl) ?_
    refine m_get (v := .ref (h 24)) X hw_mayStand hM 24 (by decide) fl_mayStand_24 rfl dX12_mayStand_264 ?_
    refine lv_aload_n hx hb dX12_mayStand_267 rfl (lv_at hl 1 rfl) ?_
    refine m_get (v := .int (I 27)) X hw_mayStand hM 27 (by decide) fl_mayStand_27 rfl dX12_mayStand_268 ?_
    refine lv_iload_n hx hb dX12_mayStand_271 rfl (lv_at hl 2 rfl) ?_
    refine lv_iadd hx hb dX12_mayStand_272 ?_
    obtain ⟨v1, ev, hf⟩ := m_bndE hf
    refine m_top ev ?_
    clear ev
    obtain ⟨cd, hf⟩ := m_chkE hf
    refine m_iald X hM 24 20 64 rfl cd dX12_mayStand_273 ?_
    clear cd
    obtain ⟨v2, ev, hf⟩ := m_bndE hf
    refine m_top ev ?_
    clear ev
    refine lv_if_ne (tgt := 306) hx hb dX12_mayStand_274 (by decide) (fun cc1 => ?_) (fun cc1 => ?_)
    · replace hf := m_ifF hf cc1
      exact w_mayStand_306 X hret hf hM (lv_sub hl [1] rfl)
    · replace hf := m_ifT hf cc1
      refine lv_aload_n hx hb dX12_mayStand_277 rfl (lv_at hl 1 rfl) ?_
      refine m_get (v := .ref (h 24)) X hw_mayStand hM 24 (by decide) fl_mayStand_24 rfl dX12_mayStand_278 ?_
      refine lv_aload_n hx hb dX12_mayStand_281 rfl (lv_at hl 1 rfl) ?_
      refine m_get (v := .int (I 27)) X hw_mayStand hM 27 (by decide) fl_mayStand_27 rfl dX12_mayStand_282 ?_
      refine lv_iload_n hx hb dX12_mayStand_285 rfl (lv_at hl 2 rfl) ?_
      refine lv_isub hx hb dX12_mayStand_286 ?_
      obtain ⟨v3, ev, hf⟩ := m_bndE hf
      refine m_top ev ?_
      clear ev
      obtain ⟨cd, hf⟩ := m_chkE hf
      refine m_iald X hM 24 20 64 rfl cd dX12_mayStand_287 ?_
      clear cd
      obtain ⟨v4, ev, hf⟩ := m_bndE hf
      refine m_top ev ?_
      clear ev
      refine lv_iconst (v := (1 : Int32)) hx hb dX12_mayStand_288 (by decide) ?_
      refine lv_bipush (v := (8 : Int32)) hx hb dX12_mayStand_289 (by decide) ?_
      refine lv_iconst (v := (1 : Int32)) hx hb dX12_mayStand_291 (by decide) ?_
      refine lv_aload_n hx hb dX12_mayStand_292 rfl (lv_at hl 1 rfl) ?_
      refine m_get (v := .int (I 25)) X hw_mayStand hM 25 (by decide) fl_mayStand_25 rfl dX12_mayStand_293 ?_
      refine lv_isub hx hb dX12_mayStand_296 ?_
      obtain ⟨v5, ev, hf⟩ := m_bndE hf
      refine m_top ev ?_
      clear ev
      refine lv_imul hx hb dX12_mayStand_297 ?_
      obtain ⟨v6, ev, hf⟩ := m_bndE hf
      refine m_top ev ?_
      clear ev
      refine lv_iadd hx hb dX12_mayStand_298 ?_
      obtain ⟨v7, ev, hf⟩ := m_bndE hf
      refine m_top ev ?_
      clear ev
      refine lv_icmp_ne (tgt := 306) hx hb dX12_mayStand_299 (by decide) (fun cc1 => ?_) (fun cc1 => ?_)
      · replace hf := m_ifF hf cc1
        exact w_mayStand_306 X hret hf hM (lv_sub hl [1] rfl)
      · replace hf := m_ifT hf cc1
        refine lv_iconst (v := (1 : Int32)) hx hb dX12_mayStand_302 (by decide) ?_
        refine lv_goto (tgt := 307) hx hb dX12_mayStand_303 (by decide) ?_
        exact w_mayStand_307 X hret hf hM (lv_sub hl [1] rfl)
noncomputable def f_mayStand_257 (x2 : Int32) (I : Nat → Int32) (A : Nat → Nat → Int32) : Option (Int32 × MS) :=
  f_mayStand_258 x2 (0 : Int32) I A

set_option maxRecDepth 100000 in
set_option maxHeartbeats 4000000 in
theorem w_mayStand_257 {p : Program} {l : Launch} {e : Env} {s : State} {m : MethodId} {args : Array Value} {below : List Frame} {meth : Method} {c : Code} {Q : State → Prop} {D : va_G} {cy ci : ClassId} {h : Nat → Nat} {A0 : Nat → Prop} {o : Int32 × MS} (X : CallFix p m c cX12_mayStand 5 s args wsX12_mayStand RX12) (hret : mRi p l e ({ frames := 4, cells := 0, slots := 0, locals := 98 } : Room) s m args below meth c Q cX12_mayStand D cy ci h A0 .boolean o) {x2 : Int32} {I : Nat → Int32} {A : Nat → Nat → Int32} {H : Heap} {locs : List Loc} {ls : Array Slot} (hf : f_mayStand_257 x2 I A = some o) (hM : mH D cy ci h A0 s H locs I A) (hl : lv_has ls 5 [(0, .ref (h 0)), (2, .int x2)]) : W p l e ({ frames := 4, cells := 0, slots := 0, locals := 98 } : Room) s m args below meth c H locs 0 0 Q (F0 m 257 ls []) := by
  obtain ⟨hx, hb, hml, hown, hts⟩ := id X
  unfold f_mayStand_257 at hf
  refine lv_iconst (v := (0 : Int32)) hx hb dX12_mayStand_257 (by decide) ?_
  exact w_mayStand_258 X hret hf hM (lv_sub hl [0, 1] rfl)
noncomputable def f_mayStand_238 (x2 : Int32) (t0 : Int32) (t1 : Int32) (I : Nat → Int32) (A : Nat → Nat → Int32) : Option (Int32 × MS) :=
  m_if (t1 = t0) (
  m_chk (¬ ((I 27) < 0 ∨ 64 ≤ ((I 27)).toNatClampNeg)) (
  m_bnd (A 24 ((I 27)).toNatClampNeg) (fun v1 =>
  m_if (v1 = 0) (
  f_mayStand_258 x2 (1 : Int32) I A
  ) (
  f_mayStand_257 x2 I A
  )))
  ) (
  f_mayStand_257 x2 I A
  )

set_option maxRecDepth 100000 in
set_option maxHeartbeats 4000000 in
theorem w_mayStand_238 {p : Program} {l : Launch} {e : Env} {s : State} {m : MethodId} {args : Array Value} {below : List Frame} {meth : Method} {c : Code} {Q : State → Prop} {D : va_G} {cy ci : ClassId} {h : Nat → Nat} {A0 : Nat → Prop} {o : Int32 × MS} (X : CallFix p m c cX12_mayStand 5 s args wsX12_mayStand RX12) (hret : mRi p l e ({ frames := 4, cells := 0, slots := 0, locals := 98 } : Room) s m args below meth c Q cX12_mayStand D cy ci h A0 .boolean o) {x2 : Int32} {t0 : Int32} {t1 : Int32} {I : Nat → Int32} {A : Nat → Nat → Int32} {H : Heap} {locs : List Loc} {ls : Array Slot} (hf : f_mayStand_238 x2 t0 t1 I A = some o) (hM : mH D cy ci h A0 s H locs I A) (hl : lv_has ls 5 [(0, .ref (h 0)), (2, .int x2)]) : W p l e ({ frames := 4, cells := 0, slots := 0, locals := 98 } : Room) s m args below meth c H locs 0 0 Q (F0 m 238 ls [.int t0, .int t1]) := by
  obtain ⟨hx, hb, hml, hown, hts⟩ := id X
  unfold f_mayStand_238 at hf
  refine lv_icmp_ne (tgt := 257) hx hb dX12_mayStand_238 (by decide) (fun cc1 => ?_) (fun cc1 => ?_)
  · replace hf := m_ifF hf cc1
    exact w_mayStand_257 X hret hf hM (lv_sub hl [0, 1] rfl)
  · replace hf := m_ifT hf cc1
    refine lv_aload_n hx hb dX12_mayStand_241 rfl (lv_at hl 0 rfl) ?_
    refine m_get (v := .ref (h 24)) X hw_mayStand hM 24 (by decide) fl_mayStand_24 rfl dX12_mayStand_242 ?_
    refine lv_aload_n hx hb dX12_mayStand_245 rfl (lv_at hl 0 rfl) ?_
    refine m_get (v := .int (I 27)) X hw_mayStand hM 27 (by decide) fl_mayStand_27 rfl dX12_mayStand_246 ?_
    obtain ⟨cd, hf⟩ := m_chkE hf
    refine m_iald X hM 24 20 64 rfl cd dX12_mayStand_249 ?_
    clear cd
    obtain ⟨v1, ev, hf⟩ := m_bndE hf
    refine m_top ev ?_
    clear ev
    refine lv_if_ne (tgt := 257) hx hb dX12_mayStand_250 (by decide) (fun cc1 => ?_) (fun cc1 => ?_)
    · replace hf := m_ifF hf cc1
      exact w_mayStand_257 X hret hf hM (lv_sub hl [0, 1] rfl)
    · replace hf := m_ifT hf cc1
      refine lv_iconst (v := (1 : Int32)) hx hb dX12_mayStand_253 (by decide) ?_
      refine lv_goto (tgt := 258) hx hb dX12_mayStand_254 (by decide) ?_
      exact w_mayStand_258 X hret hf hM (lv_sub hl [0, 1] rfl)
noncomputable def f_mayStand_218 (t0 : Int32) (I : Nat → Int32) (A : Nat → Nat → Int32) : Option (Int32 × MS) :=
  m_bnd ((I 27) / (8 : Int32)) (fun v1 =>
  m_if ((I 25) = 0) (
  f_mayStand_238 t0 (5 : Int32) v1 I A
  ) (
  f_mayStand_238 t0 (2 : Int32) v1 I A
  ))

set_option maxRecDepth 100000 in
set_option maxHeartbeats 4000000 in
theorem w_mayStand_218 {p : Program} {l : Launch} {e : Env} {s : State} {m : MethodId} {args : Array Value} {below : List Frame} {meth : Method} {c : Code} {Q : State → Prop} {D : va_G} {cy ci : ClassId} {h : Nat → Nat} {A0 : Nat → Prop} {o : Int32 × MS} (X : CallFix p m c cX12_mayStand 5 s args wsX12_mayStand RX12) (hret : mRi p l e ({ frames := 4, cells := 0, slots := 0, locals := 98 } : Room) s m args below meth c Q cX12_mayStand D cy ci h A0 .boolean o) {t0 : Int32} {I : Nat → Int32} {A : Nat → Nat → Int32} {H : Heap} {locs : List Loc} {ls : Array Slot} (hf : f_mayStand_218 t0 I A = some o) (hM : mH D cy ci h A0 s H locs I A) (hl : lv_has ls 5 [(0, .ref (h 0))]) : W p l e ({ frames := 4, cells := 0, slots := 0, locals := 98 } : Room) s m args below meth c H locs 0 0 Q (F0 m 218 ls [.int t0]) := by
  obtain ⟨hx, hb, hml, hown, hts⟩ := id X
  unfold f_mayStand_218 at hf
  refine lv_istore_n (lv' := [(2, .int t0), (0, .ref (h 0))]) hx hb dX12_mayStand_218 rfl hl (by decide) rfl (fun ls hl => ?_)
  refine lv_aload_n hx hb dX12_mayStand_219 rfl (lv_at hl 1 rfl) ?_
  refine m_get (v := .int (I 27)) X hw_mayStand hM 27 (by decide) fl_mayStand_27 rfl dX12_mayStand_220 ?_
  refine lv_bipush (v := (8 : Int32)) hx hb dX12_mayStand_223 (by decide) ?_
  refine lv_idiv hx hb dX12_mayStand_225 (by decide) ?_
  obtain ⟨v1, ev, hf⟩ := m_bndE hf
  refine m_top ev ?_
  clear ev
  refine lv_aload_n hx hb dX12_mayStand_226 rfl (lv_at hl 1 rfl) ?_
  refine m_get (v := .int (I 25)) X hw_mayStand hM 25 (by decide) fl_mayStand_25 rfl dX12_mayStand_227 ?_
  refine lv_if_ne (tgt := 237) hx hb dX12_mayStand_230 (by decide) (fun cc1 => ?_) (fun cc1 => ?_)
  · replace hf := m_ifF hf cc1
    refine lv_iconst (v := (2 : Int32)) hx hb dX12_mayStand_237 (by decide) ?_
    exact w_mayStand_238 X hret hf hM (lv_sub hl [1, 0] rfl)
  · replace hf := m_ifT hf cc1
    refine lv_iconst (v := (5 : Int32)) hx hb dX12_mayStand_233 (by decide) ?_
    refine lv_goto (tgt := 238) hx hb dX12_mayStand_234 (by decide) ?_
    exact w_mayStand_238 X hret hf hM (lv_sub hl [1, 0] rfl)
noncomputable def f_mayStand_184 (self102 : Int32 → Int32 → (Nat → Int32) → (Nat → Nat → Int32) → Option (Int32 × MS)) (x2 : Int32) (t0 : Int32) (I : Nat → Int32) (A : Nat → Nat → Int32) : Option (Int32 × MS) :=
  m_bnd (x2 + (1 : Int32)) (fun v1 =>
  self102 t0 v1 I A)

set_option maxRecDepth 100000 in
set_option maxHeartbeats 4000000 in
theorem w_mayStand_184 {p : Program} {l : Launch} {e : Env} {s : State} {m : MethodId} {args : Array Value} {below : List Frame} {meth : Method} {c : Code} {Q : State → Prop} {D : va_G} {cy ci : ClassId} {h : Nat → Nat} {A0 : Nat → Prop} {o : Int32 × MS} (X : CallFix p m c cX12_mayStand 5 s args wsX12_mayStand RX12) (hret : mRi p l e ({ frames := 4, cells := 0, slots := 0, locals := 98 } : Room) s m args below meth c Q cX12_mayStand D cy ci h A0 .boolean o) {self102 : Int32 → Int32 → (Nat → Int32) → (Nat → Nat → Int32) → Option (Int32 × MS)} (hself102 : ∀ (x1 : Int32) (x2 : Int32) (I : Nat → Int32) (A : Nat → Nat → Int32) (H : Heap) (locs : List Loc) (ls : Array Slot), self102 x1 x2 I A = some o → mH D cy ci h A0 s H locs I A → lv_has ls 5 [(0, .ref (h 0)), (1, .int x1), (2, .int x2)] → W p l e ({ frames := 4, cells := 0, slots := 0, locals := 98 } : Room) s m args below meth c H locs 0 0 Q (F0 m 102 ls [])) {x2 : Int32} {t0 : Int32} {I : Nat → Int32} {A : Nat → Nat → Int32} {H : Heap} {locs : List Loc} {ls : Array Slot} (hf : f_mayStand_184 self102 x2 t0 I A = some o) (hM : mH D cy ci h A0 s H locs I A) (hl : lv_has ls 5 [(0, .ref (h 0)), (2, .int x2)]) : W p l e ({ frames := 4, cells := 0, slots := 0, locals := 98 } : Room) s m args below meth c H locs 0 0 Q (F0 m 184 ls [.int t0]) := by
  obtain ⟨hx, hb, hml, hown, hts⟩ := id X
  unfold f_mayStand_184 at hf
  refine lv_istore_n (lv' := [(1, .int t0), (0, .ref (h 0)), (2, .int x2)]) hx hb dX12_mayStand_184 rfl hl (by decide) rfl (fun ls hl => ?_)
  obtain ⟨v1, ev, hf⟩ := m_bndE hf
  refine lv_iinc (v := v1) (lv' := [(2, .int v1), (1, .int t0), (0, .ref (h 0))]) hx hb dX12_mayStand_185 hl (k := 2) rfl (by rw [ev]; rfl) (by decide) rfl (fun ls hl => ?_)
  clear ev
  refine lv_goto (tgt := 102) hx hb dX12_mayStand_188 (by decide) ?_
  exact hself102 _ _ _ _ _ _ _ hf hM (lv_sub hl [2, 1, 0] rfl)
noncomputable def f_mayStand_183 (self102 : Int32 → Int32 → (Nat → Int32) → (Nat → Nat → Int32) → Option (Int32 × MS)) (x2 : Int32) (I : Nat → Int32) (A : Nat → Nat → Int32) : Option (Int32 × MS) :=
  f_mayStand_184 self102 x2 (0 : Int32) I A

set_option maxRecDepth 100000 in
set_option maxHeartbeats 4000000 in
theorem w_mayStand_183 {p : Program} {l : Launch} {e : Env} {s : State} {m : MethodId} {args : Array Value} {below : List Frame} {meth : Method} {c : Code} {Q : State → Prop} {D : va_G} {cy ci : ClassId} {h : Nat → Nat} {A0 : Nat → Prop} {o : Int32 × MS} (X : CallFix p m c cX12_mayStand 5 s args wsX12_mayStand RX12) (hret : mRi p l e ({ frames := 4, cells := 0, slots := 0, locals := 98 } : Room) s m args below meth c Q cX12_mayStand D cy ci h A0 .boolean o) {self102 : Int32 → Int32 → (Nat → Int32) → (Nat → Nat → Int32) → Option (Int32 × MS)} (hself102 : ∀ (x1 : Int32) (x2 : Int32) (I : Nat → Int32) (A : Nat → Nat → Int32) (H : Heap) (locs : List Loc) (ls : Array Slot), self102 x1 x2 I A = some o → mH D cy ci h A0 s H locs I A → lv_has ls 5 [(0, .ref (h 0)), (1, .int x1), (2, .int x2)] → W p l e ({ frames := 4, cells := 0, slots := 0, locals := 98 } : Room) s m args below meth c H locs 0 0 Q (F0 m 102 ls [])) {x2 : Int32} {I : Nat → Int32} {A : Nat → Nat → Int32} {H : Heap} {locs : List Loc} {ls : Array Slot} (hf : f_mayStand_183 self102 x2 I A = some o) (hM : mH D cy ci h A0 s H locs I A) (hl : lv_has ls 5 [(0, .ref (h 0)), (2, .int x2)]) : W p l e ({ frames := 4, cells := 0, slots := 0, locals := 98 } : Room) s m args below meth c H locs 0 0 Q (F0 m 183 ls []) := by
  obtain ⟨hx, hb, hml, hown, hts⟩ := id X
  unfold f_mayStand_183 at hf
  refine lv_iconst (v := (0 : Int32)) hx hb dX12_mayStand_183 (by decide) ?_
  exact w_mayStand_184 X hret hself102 hf hM (lv_sub hl [0, 1] rfl)
noncomputable def f_mayStand_179 (self102 : Int32 → Int32 → (Nat → Int32) → (Nat → Nat → Int32) → Option (Int32 × MS)) (x2 : Int32) (I : Nat → Int32) (A : Nat → Nat → Int32) : Option (Int32 × MS) :=
  f_mayStand_184 self102 x2 (1 : Int32) I A

set_option maxRecDepth 100000 in
set_option maxHeartbeats 4000000 in
theorem w_mayStand_179 {p : Program} {l : Launch} {e : Env} {s : State} {m : MethodId} {args : Array Value} {below : List Frame} {meth : Method} {c : Code} {Q : State → Prop} {D : va_G} {cy ci : ClassId} {h : Nat → Nat} {A0 : Nat → Prop} {o : Int32 × MS} (X : CallFix p m c cX12_mayStand 5 s args wsX12_mayStand RX12) (hret : mRi p l e ({ frames := 4, cells := 0, slots := 0, locals := 98 } : Room) s m args below meth c Q cX12_mayStand D cy ci h A0 .boolean o) {self102 : Int32 → Int32 → (Nat → Int32) → (Nat → Nat → Int32) → Option (Int32 × MS)} (hself102 : ∀ (x1 : Int32) (x2 : Int32) (I : Nat → Int32) (A : Nat → Nat → Int32) (H : Heap) (locs : List Loc) (ls : Array Slot), self102 x1 x2 I A = some o → mH D cy ci h A0 s H locs I A → lv_has ls 5 [(0, .ref (h 0)), (1, .int x1), (2, .int x2)] → W p l e ({ frames := 4, cells := 0, slots := 0, locals := 98 } : Room) s m args below meth c H locs 0 0 Q (F0 m 102 ls [])) {x2 : Int32} {I : Nat → Int32} {A : Nat → Nat → Int32} {H : Heap} {locs : List Loc} {ls : Array Slot} (hf : f_mayStand_179 self102 x2 I A = some o) (hM : mH D cy ci h A0 s H locs I A) (hl : lv_has ls 5 [(0, .ref (h 0)), (2, .int x2)]) : W p l e ({ frames := 4, cells := 0, slots := 0, locals := 98 } : Room) s m args below meth c H locs 0 0 Q (F0 m 179 ls []) := by
  obtain ⟨hx, hb, hml, hown, hts⟩ := id X
  unfold f_mayStand_179 at hf
  refine lv_iconst (v := (1 : Int32)) hx hb dX12_mayStand_179 (by decide) ?_
  refine lv_goto (tgt := 184) hx hb dX12_mayStand_180 (by decide) ?_
  exact w_mayStand_184 X hret hself102 hf hM (lv_sub hl [0, 1] rfl)
noncomputable def f_mayStand_170 (self102 : Int32 → Int32 → (Nat → Int32) → (Nat → Nat → Int32) → Option (Int32 × MS)) (x2 : Int32) (x4 : Int32) (t0 : Int32) (t1 : Int32) (I : Nat → Int32) (A : Nat → Nat → Int32) : Option (Int32 × MS) :=
  m_bnd (t1 + t0) (fun v1 =>
  m_chk (¬ (v1 < 0 ∨ 64 ≤ (v1).toNatClampNeg)) (
  m_bnd (A 24 (v1).toNatClampNeg) (fun v2 =>
  m_bnd ((4 : Int32) + x4) (fun v3 =>
  m_if (v2 = v3) (
  f_mayStand_179 self102 x2 I A
  ) (
  f_mayStand_183 self102 x2 I A
  )))))

set_option maxRecDepth 100000 in
set_option maxHeartbeats 4000000 in
theorem w_mayStand_170 {p : Program} {l : Launch} {e : Env} {s : State} {m : MethodId} {args : Array Value} {below : List Frame} {meth : Method} {c : Code} {Q : State → Prop} {D : va_G} {cy ci : ClassId} {h : Nat → Nat} {A0 : Nat → Prop} {o : Int32 × MS} (X : CallFix p m c cX12_mayStand 5 s args wsX12_mayStand RX12) (hret : mRi p l e ({ frames := 4, cells := 0, slots := 0, locals := 98 } : Room) s m args below meth c Q cX12_mayStand D cy ci h A0 .boolean o) {self102 : Int32 → Int32 → (Nat → Int32) → (Nat → Nat → Int32) → Option (Int32 × MS)} (hself102 : ∀ (x1 : Int32) (x2 : Int32) (I : Nat → Int32) (A : Nat → Nat → Int32) (H : Heap) (locs : List Loc) (ls : Array Slot), self102 x1 x2 I A = some o → mH D cy ci h A0 s H locs I A → lv_has ls 5 [(0, .ref (h 0)), (1, .int x1), (2, .int x2)] → W p l e ({ frames := 4, cells := 0, slots := 0, locals := 98 } : Room) s m args below meth c H locs 0 0 Q (F0 m 102 ls [])) {x2 : Int32} {x4 : Int32} {t0 : Int32} {t1 : Int32} {I : Nat → Int32} {A : Nat → Nat → Int32} {H : Heap} {locs : List Loc} {ls : Array Slot} (hf : f_mayStand_170 self102 x2 x4 t0 t1 I A = some o) (hM : mH D cy ci h A0 s H locs I A) (hl : lv_has ls 5 [(0, .ref (h 0)), (2, .int x2), (4, .int x4)]) : W p l e ({ frames := 4, cells := 0, slots := 0, locals := 98 } : Room) s m args below meth c H locs 0 0 Q (F0 m 170 ls [.int t0, .int t1, .ref (h 24)]) := by
  obtain ⟨hx, hb, hml, hown, hts⟩ := id X
  unfold f_mayStand_170 at hf
  refine lv_iadd hx hb dX12_mayStand_170 ?_
  obtain ⟨v1, ev, hf⟩ := m_bndE hf
  refine m_top ev ?_
  clear ev
  obtain ⟨cd, hf⟩ := m_chkE hf
  refine m_iald X hM 24 20 64 rfl cd dX12_mayStand_171 ?_
  clear cd
  obtain ⟨v2, ev, hf⟩ := m_bndE hf
  refine m_top ev ?_
  clear ev
  refine lv_iconst (v := (4 : Int32)) hx hb dX12_mayStand_172 (by decide) ?_
  refine lv_iload hx hb dX12_mayStand_173 (lv_at hl 2 rfl) ?_
  refine lv_iadd hx hb dX12_mayStand_175 ?_
  obtain ⟨v3, ev, hf⟩ := m_bndE hf
  refine m_top ev ?_
  clear ev
  refine lv_icmp_ne (tgt := 183) hx hb dX12_mayStand_176 (by decide) (fun cc1 => ?_) (fun cc1 => ?_)
  · replace hf := m_ifF hf cc1
    exact w_mayStand_183 X hret hself102 hf hM (lv_sub hl [0, 1] rfl)
  · replace hf := m_ifT hf cc1
    exact w_mayStand_179 X hret hself102 hf hM (lv_sub hl [0, 1] rfl)
noncomputable def f_mayStand_102s (self102 : Int32 → Int32 → (Nat → Int32) → (Nat → Nat → Int32) → Option (Int32 × MS)) (x1 : Int32) (x2 : Int32) (I : Nat → Int32) (A : Nat → Nat → Int32) : Option (Int32 × MS) :=
  m_if ((4 : Int32) ≤ x2) (
  m_if ((I 27) < 0) (
  f_mayStand_202 x1 I A
  ) (
  m_if (x1 = 0) (
  f_mayStand_202 x1 I A
  ) (
  m_if ((I 25) = 0) (
  f_mayStand_218 (8 : Int32) I A
  ) (
  f_mayStand_218 (-8 : Int32) I A
  )
  )
  )
  ) (
  m_bnd (x2 / (2 : Int32)) (fun v1 =>
  m_bnd ((56 : Int32) * v1) (fun v2 =>
  m_bnd (x2 / (2 : Int32)) (fun v3 =>
  m_bnd ((8 : Int32) * v3) (fun v4 =>
  m_if (x1 = 0) (
  f_mayStand_183 self102 x2 I A
  ) (
  m_bnd ((I 26) >>> (x2 &&& 31)) (fun v5 =>
  m_bnd (v5 &&& (1 : Int32)) (fun v6 =>
  m_if (v6 = 0) (
  f_mayStand_179 self102 x2 I A
  ) (
  m_bnd (v2 + (4 : Int32)) (fun v7 =>
  m_chk (¬ (v7 < 0 ∨ 64 ≤ (v7).toNatClampNeg)) (
  m_bnd (A 24 (v7).toNatClampNeg) (fun v8 =>
  m_bnd ((6 : Int32) + v4) (fun v9 =>
  m_if (v8 = v9) (
  m_bnd (x2 - x2 / (2 : Int32) * (2 : Int32)) (fun v10 =>
  m_if (v10 = 0) (
  f_mayStand_170 self102 x2 v4 (7 : Int32) v2 I A
  ) (
  f_mayStand_170 self102 x2 v4 (0 : Int32) v2 I A
  ))
  ) (
  f_mayStand_183 self102 x2 I A
  )))))
  )))
  )))))
  )

set_option maxRecDepth 100000 in
set_option maxHeartbeats 4000000 in
theorem ws_mayStand_102 {p : Program} {l : Launch} {e : Env} {s : State} {m : MethodId} {args : Array Value} {below : List Frame} {meth : Method} {c : Code} {Q : State → Prop} {D : va_G} {cy ci : ClassId} {h : Nat → Nat} {A0 : Nat → Prop} {o : Int32 × MS} (X : CallFix p m c cX12_mayStand 5 s args wsX12_mayStand RX12) (hret : mRi p l e ({ frames := 4, cells := 0, slots := 0, locals := 98 } : Room) s m args below meth c Q cX12_mayStand D cy ci h A0 .boolean o) {self102 : Int32 → Int32 → (Nat → Int32) → (Nat → Nat → Int32) → Option (Int32 × MS)} (hself102 : ∀ (x1 : Int32) (x2 : Int32) (I : Nat → Int32) (A : Nat → Nat → Int32) (H : Heap) (locs : List Loc) (ls : Array Slot), self102 x1 x2 I A = some o → mH D cy ci h A0 s H locs I A → lv_has ls 5 [(0, .ref (h 0)), (1, .int x1), (2, .int x2)] → W p l e ({ frames := 4, cells := 0, slots := 0, locals := 98 } : Room) s m args below meth c H locs 0 0 Q (F0 m 102 ls [])) {x1 : Int32} {x2 : Int32} {I : Nat → Int32} {A : Nat → Nat → Int32} {H : Heap} {locs : List Loc} {ls : Array Slot} (hf : f_mayStand_102s self102 x1 x2 I A = some o) (hM : mH D cy ci h A0 s H locs I A) (hl : lv_has ls 5 [(0, .ref (h 0)), (1, .int x1), (2, .int x2)]) : W p l e ({ frames := 4, cells := 0, slots := 0, locals := 98 } : Room) s m args below meth c H locs 0 0 Q (F0 m 102 ls []) := by
  obtain ⟨hx, hb, hml, hown, hts⟩ := id X
  unfold f_mayStand_102s at hf
  refine lv_iload_n hx hb dX12_mayStand_102 rfl (lv_at hl 2 rfl) ?_
  refine lv_iconst (v := (4 : Int32)) hx hb dX12_mayStand_103 (by decide) ?_
  refine lv_icmp_ge (tgt := 191) hx hb dX12_mayStand_104 (by decide) (fun cc1 => ?_) (fun cc1 => ?_)
  · replace hf := m_ifT hf cc1
    refine lv_aload_n hx hb dX12_mayStand_191 rfl (lv_at hl 0 rfl) ?_
    refine m_get (v := .int (I 27)) X hw_mayStand hM 27 (by decide) fl_mayStand_27 rfl dX12_mayStand_192 ?_
    refine lv_if_lt (tgt := 202) hx hb dX12_mayStand_195 (by decide) (fun cc1 => ?_) (fun cc1 => ?_)
    · replace hf := m_ifT hf cc1
      exact w_mayStand_202 X hret hf hM (lv_sub hl [1] rfl)
    · replace hf := m_ifF hf cc1
      refine lv_iload_n hx hb dX12_mayStand_198 rfl (lv_at hl 1 rfl) ?_
      refine lv_if_ne (tgt := 204) hx hb dX12_mayStand_199 (by decide) (fun cc1 => ?_) (fun cc1 => ?_)
      · replace hf := m_ifF hf cc1
        refine lv_aload_n hx hb dX12_mayStand_204 rfl (lv_at hl 0 rfl) ?_
        refine m_get (v := .int (I 25)) X hw_mayStand hM 25 (by decide) fl_mayStand_25 rfl dX12_mayStand_205 ?_
        refine lv_if_ne (tgt := 216) hx hb dX12_mayStand_208 (by decide) (fun cc1 => ?_) (fun cc1 => ?_)
        · replace hf := m_ifF hf cc1
          refine lv_bipush (v := (-8 : Int32)) hx hb dX12_mayStand_216 (by decide) ?_
          exact w_mayStand_218 X hret hf hM (lv_sub hl [0] rfl)
        · replace hf := m_ifT hf cc1
          refine lv_bipush (v := (8 : Int32)) hx hb dX12_mayStand_211 (by decide) ?_
          refine lv_goto (tgt := 218) hx hb dX12_mayStand_213 (by decide) ?_
          exact w_mayStand_218 X hret hf hM (lv_sub hl [0] rfl)
      · replace hf := m_ifT hf cc1
        exact w_mayStand_202 X hret hf hM (lv_sub hl [1] rfl)
  · replace hf := m_ifF hf cc1
    refine lv_bipush (v := (56 : Int32)) hx hb dX12_mayStand_107 (by decide) ?_
    refine lv_iload_n hx hb dX12_mayStand_109 rfl (lv_at hl 2 rfl) ?_
    refine lv_iconst (v := (2 : Int32)) hx hb dX12_mayStand_110 (by decide) ?_
    refine lv_idiv hx hb dX12_mayStand_111 (by decide) ?_
    obtain ⟨v1, ev, hf⟩ := m_bndE hf
    refine m_top ev ?_
    clear ev
    refine lv_imul hx hb dX12_mayStand_112 ?_
    obtain ⟨v2, ev, hf⟩ := m_bndE hf
    refine m_top ev ?_
    clear ev
    refine lv_istore_n (lv' := [(3, .int v2), (0, .ref (h 0)), (1, .int x1), (2, .int x2)]) hx hb dX12_mayStand_113 rfl hl (by decide) rfl (fun ls hl => ?_)
    refine lv_bipush (v := (8 : Int32)) hx hb dX12_mayStand_114 (by decide) ?_
    refine lv_iload_n hx hb dX12_mayStand_116 rfl (lv_at hl 3 rfl) ?_
    refine lv_iconst (v := (2 : Int32)) hx hb dX12_mayStand_117 (by decide) ?_
    refine lv_idiv hx hb dX12_mayStand_118 (by decide) ?_
    obtain ⟨v3, ev, hf⟩ := m_bndE hf
    refine m_top ev ?_
    clear ev
    refine lv_imul hx hb dX12_mayStand_119 ?_
    obtain ⟨v4, ev, hf⟩ := m_bndE hf
    refine m_top ev ?_
    clear ev
    refine lv_istore (lv' := [(4, .int v4), (3, .int v2), (0, .ref (h 0)), (1, .int x1), (2, .int x2)]) hx hb dX12_mayStand_120 hl (by decide) rfl (fun ls hl => ?_)
    refine lv_iload_n hx hb dX12_mayStand_122 rfl (lv_at hl 3 rfl) ?_
    refine lv_if_eq (tgt := 183) hx hb dX12_mayStand_123 (by decide) (fun cc1 => ?_) (fun cc1 => ?_)
    · replace hf := m_ifT hf cc1
      exact w_mayStand_183 X hret hself102 hf hM (lv_sub hl [2, 4] rfl)
    · replace hf := m_ifF hf cc1
      refine lv_aload_n hx hb dX12_mayStand_126 rfl (lv_at hl 2 rfl) ?_
      refine m_get (v := .int (I 26)) X hw_mayStand hM 26 (by decide) fl_mayStand_26 rfl dX12_mayStand_127 ?_
      refine lv_iload_n hx hb dX12_mayStand_130 rfl (lv_at hl 4 rfl) ?_
      refine lv_ishr hx hb dX12_mayStand_131 ?_
      obtain ⟨v5, ev, hf⟩ := m_bndE hf
      refine m_top ev ?_
      clear ev
      refine lv_iconst (v := (1 : Int32)) hx hb dX12_mayStand_132 (by decide) ?_
      refine lv_iand hx hb dX12_mayStand_133 ?_
      obtain ⟨v6, ev, hf⟩ := m_bndE hf
      refine m_top ev ?_
      clear ev
      refine lv_if_eq (tgt := 179) hx hb dX12_mayStand_134 (by decide) (fun cc1 => ?_) (fun cc1 => ?_)
      · replace hf := m_ifT hf cc1
        exact w_mayStand_179 X hret hself102 hf hM (lv_sub hl [2, 4] rfl)
      · replace hf := m_ifF hf cc1
        refine lv_aload_n hx hb dX12_mayStand_137 rfl (lv_at hl 2 rfl) ?_
        refine m_get (v := .ref (h 24)) X hw_mayStand hM 24 (by decide) fl_mayStand_24 rfl dX12_mayStand_138 ?_
        refine lv_iload_n hx hb dX12_mayStand_141 rfl (lv_at hl 1 rfl) ?_
        refine lv_iconst (v := (4 : Int32)) hx hb dX12_mayStand_142 (by decide) ?_
        refine lv_iadd hx hb dX12_mayStand_143 ?_
        obtain ⟨v7, ev, hf⟩ := m_bndE hf
        refine m_top ev ?_
        clear ev
        obtain ⟨cd, hf⟩ := m_chkE hf
        refine m_iald X hM 24 20 64 rfl cd dX12_mayStand_144 ?_
        clear cd
        obtain ⟨v8, ev, hf⟩ := m_bndE hf
        refine m_top ev ?_
        clear ev
        refine lv_bipush (v := (6 : Int32)) hx hb dX12_mayStand_145 (by decide) ?_
        refine lv_iload hx hb dX12_mayStand_147 (lv_at hl 0 rfl) ?_
        refine lv_iadd hx hb dX12_mayStand_149 ?_
        obtain ⟨v9, ev, hf⟩ := m_bndE hf
        refine m_top ev ?_
        clear ev
        refine lv_icmp_ne (tgt := 183) hx hb dX12_mayStand_150 (by decide) (fun cc1 => ?_) (fun cc1 => ?_)
        · replace hf := m_ifF hf cc1
          exact w_mayStand_183 X hret hself102 hf hM (lv_sub hl [2, 4] rfl)
        · replace hf := m_ifT hf cc1
          refine lv_aload_n hx hb dX12_mayStand_153 rfl (lv_at hl 2 rfl) ?_
          refine m_get (v := .ref (h 24)) X hw_mayStand hM 24 (by decide) fl_mayStand_24 rfl dX12_mayStand_154 ?_
          refine lv_iload_n hx hb dX12_mayStand_157 rfl (lv_at hl 1 rfl) ?_
          refine lv_iload_n hx hb dX12_mayStand_158 rfl (lv_at hl 4 rfl) ?_
          refine lv_iconst (v := (2 : Int32)) hx hb dX12_mayStand_159 (by decide) ?_
          refine lv_irem hx hb dX12_mayStand_160 (by decide) ?_
          obtain ⟨v10, ev, hf⟩ := m_bndE hf
          refine m_top ev ?_
          clear ev
          refine lv_if_ne (tgt := 169) hx hb dX12_mayStand_161 (by decide) (fun cc1 => ?_) (fun cc1 => ?_)
          · replace hf := m_ifF hf cc1
            refine lv_iconst (v := (0 : Int32)) hx hb dX12_mayStand_169 (by decide) ?_
            exact w_mayStand_170 X hret hself102 hf hM (lv_sub hl [2, 4, 0] rfl)
          · replace hf := m_ifT hf cc1
            refine lv_bipush (v := (7 : Int32)) hx hb dX12_mayStand_164 (by decide) ?_
            refine lv_goto (tgt := 170) hx hb dX12_mayStand_166 (by decide) ?_
            exact w_mayStand_170 X hret hself102 hf hM (lv_sub hl [2, 4, 0] rfl)
noncomputable def f_mayStand_102 : Nat → Int32 → Int32 → (Nat → Int32) → (Nat → Nat → Int32) → Option (Int32 × MS)
  | 0 => fun _ _ _ _ => none
  | n + 1 => f_mayStand_102s (f_mayStand_102 n)
theorem w_mayStand_102 {p : Program} {l : Launch} {e : Env} {s : State} {m : MethodId} {args : Array Value} {below : List Frame} {meth : Method} {c : Code} {Q : State → Prop} {D : va_G} {cy ci : ClassId} {h : Nat → Nat} {A0 : Nat → Prop} {o : Int32 × MS} (X : CallFix p m c cX12_mayStand 5 s args wsX12_mayStand RX12) (hret : mRi p l e ({ frames := 4, cells := 0, slots := 0, locals := 98 } : Room) s m args below meth c Q cX12_mayStand D cy ci h A0 .boolean o) (n : Nat) : ∀ (x1 : Int32) (x2 : Int32) (I : Nat → Int32) (A : Nat → Nat → Int32) (H : Heap) (locs : List Loc) (ls : Array Slot), f_mayStand_102 n x1 x2 I A = some o → mH D cy ci h A0 s H locs I A → lv_has ls 5 [(0, .ref (h 0)), (1, .int x1), (2, .int x2)] → W p l e ({ frames := 4, cells := 0, slots := 0, locals := 98 } : Room) s m args below meth c H locs 0 0 Q (F0 m 102 ls []) := by
  induction n with
  | zero => intro x1 x2 I A H locs ls hf; cases hf
  | succ n ih => intro x1 x2 I A H locs ls hf hM hl; exact ws_mayStand_102 X hret (self102 := f_mayStand_102 n) ih hf hM hl
noncomputable def f_mayStand_99 (t0 : Int32) (I : Nat → Int32) (A : Nat → Nat → Int32) : Option (Int32 × MS) :=
  f_mayStand_102 mFuel t0 (0 : Int32) I A

set_option maxRecDepth 100000 in
set_option maxHeartbeats 4000000 in
theorem w_mayStand_99 {p : Program} {l : Launch} {e : Env} {s : State} {m : MethodId} {args : Array Value} {below : List Frame} {meth : Method} {c : Code} {Q : State → Prop} {D : va_G} {cy ci : ClassId} {h : Nat → Nat} {A0 : Nat → Prop} {o : Int32 × MS} (X : CallFix p m c cX12_mayStand 5 s args wsX12_mayStand RX12) (hret : mRi p l e ({ frames := 4, cells := 0, slots := 0, locals := 98 } : Room) s m args below meth c Q cX12_mayStand D cy ci h A0 .boolean o) {t0 : Int32} {I : Nat → Int32} {A : Nat → Nat → Int32} {H : Heap} {locs : List Loc} {ls : Array Slot} (hf : f_mayStand_99 t0 I A = some o) (hM : mH D cy ci h A0 s H locs I A) (hl : lv_has ls 5 [(0, .ref (h 0))]) : W p l e ({ frames := 4, cells := 0, slots := 0, locals := 98 } : Room) s m args below meth c H locs 0 0 Q (F0 m 99 ls [.int t0]) := by
  obtain ⟨hx, hb, hml, hown, hts⟩ := id X
  unfold f_mayStand_99 at hf
  refine lv_istore_n (lv' := [(1, .int t0), (0, .ref (h 0))]) hx hb dX12_mayStand_99 rfl hl (by decide) rfl (fun ls hl => ?_)
  refine lv_iconst (v := (0 : Int32)) hx hb dX12_mayStand_100 (by decide) ?_
  refine lv_istore_n (lv' := [(2, .int (0 : Int32)), (1, .int t0), (0, .ref (h 0))]) hx hb dX12_mayStand_101 rfl hl (by decide) rfl (fun ls hl => ?_)
  exact w_mayStand_102 X hret _ _ _ _ _ _ _ _ hf hM (lv_sub hl [2, 1, 0] rfl)
noncomputable def f_mayStand_98 (I : Nat → Int32) (A : Nat → Nat → Int32) : Option (Int32 × MS) :=
  f_mayStand_99 (0 : Int32) I A

set_option maxRecDepth 100000 in
set_option maxHeartbeats 4000000 in
theorem w_mayStand_98 {p : Program} {l : Launch} {e : Env} {s : State} {m : MethodId} {args : Array Value} {below : List Frame} {meth : Method} {c : Code} {Q : State → Prop} {D : va_G} {cy ci : ClassId} {h : Nat → Nat} {A0 : Nat → Prop} {o : Int32 × MS} (X : CallFix p m c cX12_mayStand 5 s args wsX12_mayStand RX12) (hret : mRi p l e ({ frames := 4, cells := 0, slots := 0, locals := 98 } : Room) s m args below meth c Q cX12_mayStand D cy ci h A0 .boolean o) {I : Nat → Int32} {A : Nat → Nat → Int32} {H : Heap} {locs : List Loc} {ls : Array Slot} (hf : f_mayStand_98  I A = some o) (hM : mH D cy ci h A0 s H locs I A) (hl : lv_has ls 5 [(0, .ref (h 0))]) : W p l e ({ frames := 4, cells := 0, slots := 0, locals := 98 } : Room) s m args below meth c H locs 0 0 Q (F0 m 98 ls []) := by
  obtain ⟨hx, hb, hml, hown, hts⟩ := id X
  unfold f_mayStand_98 at hf
  refine lv_iconst (v := (0 : Int32)) hx hb dX12_mayStand_98 (by decide) ?_
  exact w_mayStand_99 X hret hf hM (lv_sub hl [0] rfl)
noncomputable def f_mayStand_70 (self26 : Int32 → Int32 → (Nat → Int32) → (Nat → Nat → Int32) → Option (Int32 × MS)) (x2 : Int32) (t0 : Int32) (I : Nat → Int32) (A : Nat → Nat → Int32) : Option (Int32 × MS) :=
  m_bnd (x2 + (1 : Int32)) (fun v1 =>
  self26 t0 v1 I A)

set_option maxRecDepth 100000 in
set_option maxHeartbeats 4000000 in
theorem w_mayStand_70 {p : Program} {l : Launch} {e : Env} {s : State} {m : MethodId} {args : Array Value} {below : List Frame} {meth : Method} {c : Code} {Q : State → Prop} {D : va_G} {cy ci : ClassId} {h : Nat → Nat} {A0 : Nat → Prop} {o : Int32 × MS} (X : CallFix p m c cX12_mayStand 5 s args wsX12_mayStand RX12) (hret : mRi p l e ({ frames := 4, cells := 0, slots := 0, locals := 98 } : Room) s m args below meth c Q cX12_mayStand D cy ci h A0 .boolean o) {self26 : Int32 → Int32 → (Nat → Int32) → (Nat → Nat → Int32) → Option (Int32 × MS)} (hself26 : ∀ (x1 : Int32) (x2 : Int32) (I : Nat → Int32) (A : Nat → Nat → Int32) (H : Heap) (locs : List Loc) (ls : Array Slot), self26 x1 x2 I A = some o → mH D cy ci h A0 s H locs I A → lv_has ls 5 [(0, .ref (h 0)), (1, .int x1), (2, .int x2)] → W p l e ({ frames := 4, cells := 0, slots := 0, locals := 98 } : Room) s m args below meth c H locs 0 0 Q (F0 m 26 ls [])) {x2 : Int32} {t0 : Int32} {I : Nat → Int32} {A : Nat → Nat → Int32} {H : Heap} {locs : List Loc} {ls : Array Slot} (hf : f_mayStand_70 self26 x2 t0 I A = some o) (hM : mH D cy ci h A0 s H locs I A) (hl : lv_has ls 5 [(0, .ref (h 0)), (2, .int x2)]) : W p l e ({ frames := 4, cells := 0, slots := 0, locals := 98 } : Room) s m args below meth c H locs 0 0 Q (F0 m 70 ls [.int t0]) := by
  obtain ⟨hx, hb, hml, hown, hts⟩ := id X
  unfold f_mayStand_70 at hf
  refine lv_istore_n (lv' := [(1, .int t0), (0, .ref (h 0)), (2, .int x2)]) hx hb dX12_mayStand_70 rfl hl (by decide) rfl (fun ls hl => ?_)
  obtain ⟨v1, ev, hf⟩ := m_bndE hf
  refine lv_iinc (v := v1) (lv' := [(2, .int v1), (1, .int t0), (0, .ref (h 0))]) hx hb dX12_mayStand_71 hl (k := 2) rfl (by rw [ev]; rfl) (by decide) rfl (fun ls hl => ?_)
  clear ev
  refine lv_goto (tgt := 26) hx hb dX12_mayStand_74 (by decide) ?_
  exact hself26 _ _ _ _ _ _ _ hf hM (lv_sub hl [2, 1, 0] rfl)
noncomputable def f_mayStand_69 (self26 : Int32 → Int32 → (Nat → Int32) → (Nat → Nat → Int32) → Option (Int32 × MS)) (x2 : Int32) (I : Nat → Int32) (A : Nat → Nat → Int32) : Option (Int32 × MS) :=
  f_mayStand_70 self26 x2 (0 : Int32) I A

set_option maxRecDepth 100000 in
set_option maxHeartbeats 4000000 in
theorem w_mayStand_69 {p : Program} {l : Launch} {e : Env} {s : State} {m : MethodId} {args : Array Value} {below : List Frame} {meth : Method} {c : Code} {Q : State → Prop} {D : va_G} {cy ci : ClassId} {h : Nat → Nat} {A0 : Nat → Prop} {o : Int32 × MS} (X : CallFix p m c cX12_mayStand 5 s args wsX12_mayStand RX12) (hret : mRi p l e ({ frames := 4, cells := 0, slots := 0, locals := 98 } : Room) s m args below meth c Q cX12_mayStand D cy ci h A0 .boolean o) {self26 : Int32 → Int32 → (Nat → Int32) → (Nat → Nat → Int32) → Option (Int32 × MS)} (hself26 : ∀ (x1 : Int32) (x2 : Int32) (I : Nat → Int32) (A : Nat → Nat → Int32) (H : Heap) (locs : List Loc) (ls : Array Slot), self26 x1 x2 I A = some o → mH D cy ci h A0 s H locs I A → lv_has ls 5 [(0, .ref (h 0)), (1, .int x1), (2, .int x2)] → W p l e ({ frames := 4, cells := 0, slots := 0, locals := 98 } : Room) s m args below meth c H locs 0 0 Q (F0 m 26 ls [])) {x2 : Int32} {I : Nat → Int32} {A : Nat → Nat → Int32} {H : Heap} {locs : List Loc} {ls : Array Slot} (hf : f_mayStand_69 self26 x2 I A = some o) (hM : mH D cy ci h A0 s H locs I A) (hl : lv_has ls 5 [(0, .ref (h 0)), (2, .int x2)]) : W p l e ({ frames := 4, cells := 0, slots := 0, locals := 98 } : Room) s m args below meth c H locs 0 0 Q (F0 m 69 ls []) := by
  obtain ⟨hx, hb, hml, hown, hts⟩ := id X
  unfold f_mayStand_69 at hf
  refine lv_iconst (v := (0 : Int32)) hx hb dX12_mayStand_69 (by decide) ?_
  exact w_mayStand_70 X hret hself26 hf hM (lv_sub hl [0, 1] rfl)
noncomputable def f_mayStand_26s (self26 : Int32 → Int32 → (Nat → Int32) → (Nat → Nat → Int32) → Option (Int32 × MS)) (x1 : Int32) (x2 : Int32) (I : Nat → Int32) (A : Nat → Nat → Int32) : Option (Int32 × MS) :=
  m_if ((8 : Int32) ≤ x2) (
  m_if (x1 = 0) (
  f_mayStand_98  I A
  ) (
  m_bnd ((1 : Int32) - (I 25)) (fun v1 =>
  m_cl (f_isInCheck v1 I A) (fun r2 Ic2 Ac2 =>
  m_if (r2 = 0) (
  f_mayStand_99 (1 : Int32) Ic2 Ac2
  ) (
  f_mayStand_98  Ic2 Ac2
  )))
  )
  ) (
  m_if (x1 = 0) (
  f_mayStand_69 self26 x2 I A
  ) (
  m_chk (¬ (x2 < 0 ∨ 64 ≤ (x2).toNatClampNeg)) (
  m_bnd (A 24 (x2).toNatClampNeg) (fun v3 =>
  m_cl (f_kind v3 I A) (fun r4 Ic4 Ac4 =>
  m_if (r4 = (1 : Int32)) (
  f_mayStand_69 self26 x2 Ic4 Ac4
  ) (
  m_bnd ((56 : Int32) + x2) (fun v5 =>
  m_chk (¬ (v5 < 0 ∨ 64 ≤ (v5).toNatClampNeg)) (
  m_bnd (Ac4 24 (v5).toNatClampNeg) (fun v6 =>
  m_cl (f_kind v6 Ic4 Ac4) (fun r7 Ic7 Ac7 =>
  m_if (r7 = (1 : Int32)) (
  f_mayStand_69 self26 x2 Ic7 Ac7
  ) (
  f_mayStand_70 self26 x2 (1 : Int32) Ic7 Ac7
  )))))
  ))))
  )
  )

set_option maxRecDepth 100000 in
set_option maxHeartbeats 4000000 in
theorem ws_mayStand_26 {p : Program} {l : Launch} {e : Env} {s : State} {m : MethodId} {args : Array Value} {below : List Frame} {meth : Method} {c : Code} {Q : State → Prop} {D : va_G} {cy ci : ClassId} {h : Nat → Nat} {A0 : Nat → Prop} {o : Int32 × MS} (X : CallFix p m c cX12_mayStand 5 s args wsX12_mayStand RX12) (hret : mRi p l e ({ frames := 4, cells := 0, slots := 0, locals := 98 } : Room) s m args below meth c Q cX12_mayStand D cy ci h A0 .boolean o) {self26 : Int32 → Int32 → (Nat → Int32) → (Nat → Nat → Int32) → Option (Int32 × MS)} (hself26 : ∀ (x1 : Int32) (x2 : Int32) (I : Nat → Int32) (A : Nat → Nat → Int32) (H : Heap) (locs : List Loc) (ls : Array Slot), self26 x1 x2 I A = some o → mH D cy ci h A0 s H locs I A → lv_has ls 5 [(0, .ref (h 0)), (1, .int x1), (2, .int x2)] → W p l e ({ frames := 4, cells := 0, slots := 0, locals := 98 } : Room) s m args below meth c H locs 0 0 Q (F0 m 26 ls [])) {x1 : Int32} {x2 : Int32} {I : Nat → Int32} {A : Nat → Nat → Int32} {H : Heap} {locs : List Loc} {ls : Array Slot} (hf : f_mayStand_26s self26 x1 x2 I A = some o) (hM : mH D cy ci h A0 s H locs I A) (hl : lv_has ls 5 [(0, .ref (h 0)), (1, .int x1), (2, .int x2)]) : W p l e ({ frames := 4, cells := 0, slots := 0, locals := 98 } : Room) s m args below meth c H locs 0 0 Q (F0 m 26 ls []) := by
  obtain ⟨hx, hb, hml, hown, hts⟩ := id X
  unfold f_mayStand_26s at hf
  refine lv_iload_n hx hb dX12_mayStand_26 rfl (lv_at hl 2 rfl) ?_
  refine lv_bipush (v := (8 : Int32)) hx hb dX12_mayStand_27 (by decide) ?_
  refine lv_icmp_ge (tgt := 77) hx hb dX12_mayStand_29 (by decide) (fun cc1 => ?_) (fun cc1 => ?_)
  · replace hf := m_ifT hf cc1
    refine lv_iload_n hx hb dX12_mayStand_77 rfl (lv_at hl 1 rfl) ?_
    refine lv_if_eq (tgt := 98) hx hb dX12_mayStand_78 (by decide) (fun cc1 => ?_) (fun cc1 => ?_)
    · replace hf := m_ifT hf cc1
      exact w_mayStand_98 X hret hf hM (lv_sub hl [0] rfl)
    · replace hf := m_ifF hf cc1
      refine lv_aload_n hx hb dX12_mayStand_81 rfl (lv_at hl 0 rfl) ?_
      refine lv_iconst (v := (1 : Int32)) hx hb dX12_mayStand_82 (by decide) ?_
      refine lv_aload_n hx hb dX12_mayStand_83 rfl (lv_at hl 0 rfl) ?_
      refine m_get (v := .int (I 25)) X hw_mayStand hM 25 (by decide) fl_mayStand_25 rfl dX12_mayStand_84 ?_
      refine lv_isub hx hb dX12_mayStand_87 ?_
      obtain ⟨v1, ev, hf⟩ := m_bndE hf
      refine m_top ev ?_
      clear ev
      obtain ⟨o2, ho, hf⟩ := m_clE hf
      refine m_callVi X hM (c_isInCheck ho) gX12_mayStand_X12_isInCheck rfl ⟨rfl, rfl⟩ hd_isInCheck ⟨Nat.le_of_ble_eq_true rfl, Nat.le_of_ble_eq_true rfl⟩ rfl hl.1 rfl (Nat.le_of_ble_eq_true rfl) dX12_mayStand_88 (fun H locs hM => ?_)
      clear ho
      refine lv_if_ne (tgt := 98) hx hb dX12_mayStand_91 (by decide) (fun cc1 => ?_) (fun cc1 => ?_)
      · replace hf := m_ifF hf cc1
        exact w_mayStand_98 X hret hf hM (lv_sub hl [0] rfl)
      · replace hf := m_ifT hf cc1
        refine lv_iconst (v := (1 : Int32)) hx hb dX12_mayStand_94 (by decide) ?_
        refine lv_goto (tgt := 99) hx hb dX12_mayStand_95 (by decide) ?_
        exact w_mayStand_99 X hret hf hM (lv_sub hl [0] rfl)
  · replace hf := m_ifF hf cc1
    refine lv_iload_n hx hb dX12_mayStand_32 rfl (lv_at hl 1 rfl) ?_
    refine lv_if_eq (tgt := 69) hx hb dX12_mayStand_33 (by decide) (fun cc1 => ?_) (fun cc1 => ?_)
    · replace hf := m_ifT hf cc1
      exact w_mayStand_69 X hret hself26 hf hM (lv_sub hl [0, 2] rfl)
    · replace hf := m_ifF hf cc1
      refine lv_aload_n hx hb dX12_mayStand_36 rfl (lv_at hl 0 rfl) ?_
      refine m_get (v := .ref (h 24)) X hw_mayStand hM 24 (by decide) fl_mayStand_24 rfl dX12_mayStand_37 ?_
      refine lv_iload_n hx hb dX12_mayStand_40 rfl (lv_at hl 2 rfl) ?_
      obtain ⟨cd, hf⟩ := m_chkE hf
      refine m_iald X hM 24 20 64 rfl cd dX12_mayStand_41 ?_
      clear cd
      obtain ⟨v3, ev, hf⟩ := m_bndE hf
      refine m_top ev ?_
      clear ev
      obtain ⟨o4, ho, hf⟩ := m_clE hf
      refine m_callSi X hM (c_kind ho) gX12_mayStand_X12_kind rfl ⟨rfl, rfl⟩ hd_kind ⟨Nat.le_of_ble_eq_true rfl, Nat.le_of_ble_eq_true rfl⟩ rfl hl.1 rfl (Nat.le_of_ble_eq_true rfl) dX12_mayStand_42 (fun H locs hM => ?_)
      clear ho
      refine lv_iconst (v := (1 : Int32)) hx hb dX12_mayStand_45 (by decide) ?_
      refine lv_icmp_eq (tgt := 69) hx hb dX12_mayStand_46 (by decide) (fun cc1 => ?_) (fun cc1 => ?_)
      · replace hf := m_ifT hf cc1
        exact w_mayStand_69 X hret hself26 hf hM (lv_sub hl [0, 2] rfl)
      · replace hf := m_ifF hf cc1
        refine lv_aload_n hx hb dX12_mayStand_49 rfl (lv_at hl 0 rfl) ?_
        refine m_get (v := .ref (h 24)) X hw_mayStand hM 24 (by decide) fl_mayStand_24 rfl dX12_mayStand_50 ?_
        refine lv_bipush (v := (56 : Int32)) hx hb dX12_mayStand_53 (by decide) ?_
        refine lv_iload_n hx hb dX12_mayStand_55 rfl (lv_at hl 2 rfl) ?_
        refine lv_iadd hx hb dX12_mayStand_56 ?_
        obtain ⟨v5, ev, hf⟩ := m_bndE hf
        refine m_top ev ?_
        clear ev
        obtain ⟨cd, hf⟩ := m_chkE hf
        refine m_iald X hM 24 20 64 rfl cd dX12_mayStand_57 ?_
        clear cd
        obtain ⟨v6, ev, hf⟩ := m_bndE hf
        refine m_top ev ?_
        clear ev
        obtain ⟨o7, ho, hf⟩ := m_clE hf
        refine m_callSi X hM (c_kind ho) gX12_mayStand_X12_kind rfl ⟨rfl, rfl⟩ hd_kind ⟨Nat.le_of_ble_eq_true rfl, Nat.le_of_ble_eq_true rfl⟩ rfl hl.1 rfl (Nat.le_of_ble_eq_true rfl) dX12_mayStand_58 (fun H locs hM => ?_)
        clear ho
        refine lv_iconst (v := (1 : Int32)) hx hb dX12_mayStand_61 (by decide) ?_
        refine lv_icmp_eq (tgt := 69) hx hb dX12_mayStand_62 (by decide) (fun cc1 => ?_) (fun cc1 => ?_)
        · replace hf := m_ifT hf cc1
          exact w_mayStand_69 X hret hself26 hf hM (lv_sub hl [0, 2] rfl)
        · replace hf := m_ifF hf cc1
          refine lv_iconst (v := (1 : Int32)) hx hb dX12_mayStand_65 (by decide) ?_
          refine lv_goto (tgt := 70) hx hb dX12_mayStand_66 (by decide) ?_
          exact w_mayStand_70 X hret hself26 hf hM (lv_sub hl [0, 2] rfl)
noncomputable def f_mayStand_26 : Nat → Int32 → Int32 → (Nat → Int32) → (Nat → Nat → Int32) → Option (Int32 × MS)
  | 0 => fun _ _ _ _ => none
  | n + 1 => f_mayStand_26s (f_mayStand_26 n)
theorem w_mayStand_26 {p : Program} {l : Launch} {e : Env} {s : State} {m : MethodId} {args : Array Value} {below : List Frame} {meth : Method} {c : Code} {Q : State → Prop} {D : va_G} {cy ci : ClassId} {h : Nat → Nat} {A0 : Nat → Prop} {o : Int32 × MS} (X : CallFix p m c cX12_mayStand 5 s args wsX12_mayStand RX12) (hret : mRi p l e ({ frames := 4, cells := 0, slots := 0, locals := 98 } : Room) s m args below meth c Q cX12_mayStand D cy ci h A0 .boolean o) (n : Nat) : ∀ (x1 : Int32) (x2 : Int32) (I : Nat → Int32) (A : Nat → Nat → Int32) (H : Heap) (locs : List Loc) (ls : Array Slot), f_mayStand_26 n x1 x2 I A = some o → mH D cy ci h A0 s H locs I A → lv_has ls 5 [(0, .ref (h 0)), (1, .int x1), (2, .int x2)] → W p l e ({ frames := 4, cells := 0, slots := 0, locals := 98 } : Room) s m args below meth c H locs 0 0 Q (F0 m 26 ls []) := by
  induction n with
  | zero => intro x1 x2 I A H locs ls hf; cases hf
  | succ n ih => intro x1 x2 I A H locs ls hf hM hl; exact ws_mayStand_26 X hret (self26 := f_mayStand_26 n) ih hf hM hl
noncomputable def f_mayStand_0 (I : Nat → Int32) (A : Nat → Nat → Int32) : Option (Int32 × MS) :=
  m_cl (f_countOf (6 : Int32) I A) (fun r1 Ic1 Ac1 =>
  m_if (r1 = (1 : Int32)) (
  m_cl (f_countOf (14 : Int32) Ic1 Ac1) (fun r2 Ic2 Ac2 =>
  m_if (r2 = (1 : Int32)) (
  f_mayStand_26 mFuel (1 : Int32) (0 : Int32) Ic2 Ac2
  ) (
  f_mayStand_20  Ic2 Ac2
  ))
  ) (
  f_mayStand_20  Ic1 Ac1
  ))

set_option maxRecDepth 100000 in
set_option maxHeartbeats 4000000 in
theorem w_mayStand_0 {p : Program} {l : Launch} {e : Env} {s : State} {m : MethodId} {args : Array Value} {below : List Frame} {meth : Method} {c : Code} {Q : State → Prop} {D : va_G} {cy ci : ClassId} {h : Nat → Nat} {A0 : Nat → Prop} {o : Int32 × MS} (X : CallFix p m c cX12_mayStand 5 s args wsX12_mayStand RX12) (hret : mRi p l e ({ frames := 4, cells := 0, slots := 0, locals := 98 } : Room) s m args below meth c Q cX12_mayStand D cy ci h A0 .boolean o) {I : Nat → Int32} {A : Nat → Nat → Int32} {H : Heap} {locs : List Loc} {ls : Array Slot} (hf : f_mayStand_0  I A = some o) (hM : mH D cy ci h A0 s H locs I A) (hl : lv_has ls 5 [(0, .ref (h 0))]) : W p l e ({ frames := 4, cells := 0, slots := 0, locals := 98 } : Room) s m args below meth c H locs 0 0 Q (F0 m 0 ls []) := by
  obtain ⟨hx, hb, hml, hown, hts⟩ := id X
  unfold f_mayStand_0 at hf
  refine lv_aload_n hx hb dX12_mayStand_0 rfl (lv_at hl 0 rfl) ?_
  refine lv_bipush (v := (6 : Int32)) hx hb dX12_mayStand_1 (by decide) ?_
  obtain ⟨o1, ho, hf⟩ := m_clE hf
  refine m_callVi X hM (c_countOf ho) gX12_mayStand_X12_countOf rfl ⟨rfl, rfl⟩ hd_countOf ⟨Nat.le_of_ble_eq_true rfl, Nat.le_of_ble_eq_true rfl⟩ rfl hl.1 rfl (Nat.le_of_ble_eq_true rfl) dX12_mayStand_3 (fun H locs hM => ?_)
  clear ho
  refine lv_iconst (v := (1 : Int32)) hx hb dX12_mayStand_6 (by decide) ?_
  refine lv_icmp_ne (tgt := 20) hx hb dX12_mayStand_7 (by decide) (fun cc1 => ?_) (fun cc1 => ?_)
  · replace hf := m_ifF hf cc1
    exact w_mayStand_20 X hret hf hM (lv_sub hl [] rfl)
  · replace hf := m_ifT hf cc1
    refine lv_aload_n hx hb dX12_mayStand_10 rfl (lv_at hl 0 rfl) ?_
    refine lv_bipush (v := (14 : Int32)) hx hb dX12_mayStand_11 (by decide) ?_
    obtain ⟨o2, ho, hf⟩ := m_clE hf
    refine m_callVi X hM (c_countOf ho) gX12_mayStand_X12_countOf rfl ⟨rfl, rfl⟩ hd_countOf ⟨Nat.le_of_ble_eq_true rfl, Nat.le_of_ble_eq_true rfl⟩ rfl hl.1 rfl (Nat.le_of_ble_eq_true rfl) dX12_mayStand_13 (fun H locs hM => ?_)
    clear ho
    refine lv_iconst (v := (1 : Int32)) hx hb dX12_mayStand_16 (by decide) ?_
    refine lv_icmp_eq (tgt := 22) hx hb dX12_mayStand_17 (by decide) (fun cc1 => ?_) (fun cc1 => ?_)
    · replace hf := m_ifT hf cc1
      refine lv_iconst (v := (1 : Int32)) hx hb dX12_mayStand_22 (by decide) ?_
      refine lv_istore_n (lv' := [(1, .int (1 : Int32)), (0, .ref (h 0))]) hx hb dX12_mayStand_23 rfl hl (by decide) rfl (fun ls hl => ?_)
      refine lv_iconst (v := (0 : Int32)) hx hb dX12_mayStand_24 (by decide) ?_
      refine lv_istore_n (lv' := [(2, .int (0 : Int32)), (1, .int (1 : Int32)), (0, .ref (h 0))]) hx hb dX12_mayStand_25 rfl hl (by decide) rfl (fun ls hl => ?_)
      exact w_mayStand_26 X hret _ _ _ _ _ _ _ _ hf hM (lv_sub hl [2, 1, 0] rfl)
    · replace hf := m_ifF hf cc1
      exact w_mayStand_20 X hret hf hM (lv_sub hl [] rfl)
noncomputable def f_mayStand (I : Nat → Int32) (A : Nat → Nat → Int32) : Option (Int32 × MS) := f_mayStand_0  I A
theorem c_mayStand {l : Launch} {D : va_G} {cy ci : ClassId} {h : Nat → Nat} {I : Nat → Int32} {A : Nat → Nat → Int32} {o : Int32 × MS} (hf : f_mayStand  I A = some o) : mMi l yX12_mayStand wsX12_mayStand ({ frames := 4, cells := 0, slots := 0, locals := 98 } : Room) [.ref (h 0)] D cy ci h I A o :=
  m_entryI (cc := cX12_mayStand) (maxL := 5) (by decide) rfl rfl (Nat.le_of_ble_eq_true rfl) (fun p e s m args below meth c A0 Q H locs ls X hret hM hl => w_mayStand_0 X hret hf hM (lv_sub hl [0] rfl))
theorem hw_readPosition : ∀ w ∈ wsX120, w ∈ wsX12_readPosition := by decide +kernel
theorem fl_readPosition_24 : Cond.fieldLink RX12 70 "MoveTextsModel" "men" "[I" ∈ wsX12_readPosition := by decide +kernel
theorem fl_readPosition_25 : Cond.fieldLink RX12 121 "MoveTextsModel" "side" "I" ∈ wsX12_readPosition := by decide +kernel
theorem fl_readPosition_28 : Cond.fieldLink RX12 130 "MoveTextsModel" "clock" "I" ∈ wsX12_readPosition := by decide +kernel
theorem fl_readPosition_29 : Cond.fieldLink RX12 133 "MoveTextsModel" "number" "I" ∈ wsX12_readPosition := by decide +kernel
theorem fl_readPosition_38 : Cond.fieldLink RX12 229 "MoveTextsModel" "valueAt" "I" ∈ wsX12_readPosition := by decide +kernel
theorem fl_readPosition_39 : Cond.fieldLink RX12 232 "MoveTextsModel" "valueEnd" "I" ∈ wsX12_readPosition := by decide +kernel
theorem hd_readPosition : yX12_readPosition.cls = RX12 ∧ yX12_readPosition.cls ≠ "java/lang/invoke/MethodHandle" ∧ yX12_readPosition.cls ≠ "java/lang/invoke/VarHandle" ∧ (parseMethodDescriptor yX12_readPosition.desc).map (fun d => d.parameters.length) = some 2 := by decide +kernel
noncomputable def f_readPosition_289 (t0 : Int32) (I : Nat → Int32) (A : Nat → Nat → Int32) : Option (Int32 × MS) :=
  m_chk (vp_nar .boolean t0 = t0) (some (t0, (I, A)))

set_option maxRecDepth 100000 in
set_option maxHeartbeats 4000000 in
theorem w_readPosition_289 {p : Program} {l : Launch} {e : Env} {s : State} {m : MethodId} {args : Array Value} {below : List Frame} {meth : Method} {c : Code} {Q : State → Prop} {D : va_G} {cy ci : ClassId} {h : Nat → Nat} {A0 : Nat → Prop} {o : Int32 × MS} (X : CallFix p m c cX12_readPosition 5 s args wsX12_readPosition RX12) (hret : mRi p l e ({ frames := 5, cells := 0, slots := 0, locals := 122 } : Room) s m args below meth c Q cX12_readPosition D cy ci h A0 .boolean o) {t0 : Int32} {I : Nat → Int32} {A : Nat → Nat → Int32} {H : Heap} {locs : List Loc} {ls : Array Slot} (hf : f_readPosition_289 t0 I A = some o) (hM : mH D cy ci h A0 s H locs I A) (hl : lv_has ls 5 []) : W p l e ({ frames := 5, cells := 0, slots := 0, locals := 122 } : Room) s m args below meth c H locs 0 0 Q (F0 m 289 ls [.int t0]) := by
  obtain ⟨hx, hb, hml, hown, hts⟩ := id X
  unfold f_readPosition_289 at hf
  obtain ⟨cd, hf⟩ := m_chkE hf
  cases hf
  exact hret H locs _ ls hM (m_nb cd) dX12_readPosition_289
noncomputable def f_readPosition_288 (I : Nat → Int32) (A : Nat → Nat → Int32) : Option (Int32 × MS) :=
  f_readPosition_289 (0 : Int32) I A

set_option maxRecDepth 100000 in
set_option maxHeartbeats 4000000 in
theorem w_readPosition_288 {p : Program} {l : Launch} {e : Env} {s : State} {m : MethodId} {args : Array Value} {below : List Frame} {meth : Method} {c : Code} {Q : State → Prop} {D : va_G} {cy ci : ClassId} {h : Nat → Nat} {A0 : Nat → Prop} {o : Int32 × MS} (X : CallFix p m c cX12_readPosition 5 s args wsX12_readPosition RX12) (hret : mRi p l e ({ frames := 5, cells := 0, slots := 0, locals := 122 } : Room) s m args below meth c Q cX12_readPosition D cy ci h A0 .boolean o) {I : Nat → Int32} {A : Nat → Nat → Int32} {H : Heap} {locs : List Loc} {ls : Array Slot} (hf : f_readPosition_288  I A = some o) (hM : mH D cy ci h A0 s H locs I A) (hl : lv_has ls 5 []) : W p l e ({ frames := 5, cells := 0, slots := 0, locals := 122 } : Room) s m args below meth c H locs 0 0 Q (F0 m 288 ls []) := by
  obtain ⟨hx, hb, hml, hown, hts⟩ := id X
  unfold f_readPosition_288 at hf
  refine lv_iconst (v := (0 : Int32)) hx hb dX12_readPosition_288 (by decide) ?_
  exact w_readPosition_289 X hret hf hM (lv_sub hl [] rfl)
noncomputable def f_readPosition_252 (x3 : Int32) (t0 : Int32) (I : Nat → Int32) (A : Nat → Nat → Int32) : Option (Int32 × MS) :=
  m_bnd (upd I 29 t0) (fun I1 =>
  m_if (x3 = 0) (
  f_readPosition_288  I1 A
  ) (
  m_if ((I1 29) ≤ 0) (
  f_readPosition_288  I1 A
  ) (
  m_if ((I1 38) = (I1 39)) (
  m_cl (f_mayStand  I1 A) (fun r2 Ic2 Ac2 =>
  m_if (r2 = 0) (
  f_readPosition_288  Ic2 Ac2
  ) (
  f_readPosition_289 (1 : Int32) Ic2 Ac2
  ))
  ) (
  f_readPosition_288  I1 A
  )
  )
  ))

set_option maxRecDepth 100000 in
set_option maxHeartbeats 4000000 in
theorem w_readPosition_252 {p : Program} {l : Launch} {e : Env} {s : State} {m : MethodId} {args : Array Value} {below : List Frame} {meth : Method} {c : Code} {Q : State → Prop} {D : va_G} {cy ci : ClassId} {h : Nat → Nat} {A0 : Nat → Prop} {o : Int32 × MS} (X : CallFix p m c cX12_readPosition 5 s args wsX12_readPosition RX12) (hret : mRi p l e ({ frames := 5, cells := 0, slots := 0, locals := 122 } : Room) s m args below meth c Q cX12_readPosition D cy ci h A0 .boolean o) {x3 : Int32} {t0 : Int32} {I : Nat → Int32} {A : Nat → Nat → Int32} {H : Heap} {locs : List Loc} {ls : Array Slot} (hf : f_readPosition_252 x3 t0 I A = some o) (hM : mH D cy ci h A0 s H locs I A) (hl : lv_has ls 5 [(0, .ref (h 0)), (3, .int x3)]) : W p l e ({ frames := 5, cells := 0, slots := 0, locals := 122 } : Room) s m args below meth c H locs 0 0 Q (F0 m 252 ls [.int t0, .ref (h 0)]) := by
  obtain ⟨hx, hb, hml, hown, hts⟩ := id X
  unfold f_readPosition_252 at hf
  refine m_put X hw_readPosition hM 29 (by decide) fl_readPosition_29 mi_29 rfl (tyX12_ok 29 (by decide)) dX12_readPosition_252 (fun H locs hM => ?_)
  obtain ⟨I1, ev, hf⟩ := m_bndE hf
  replace hM := m_hI hM ev
  clear ev
  refine lv_iload_n hx hb dX12_readPosition_255 rfl (lv_at hl 1 rfl) ?_
  refine lv_if_eq (tgt := 288) hx hb dX12_readPosition_256 (by decide) (fun cc1 => ?_) (fun cc1 => ?_)
  · replace hf := m_ifT hf cc1
    exact w_readPosition_288 X hret hf hM (lv_sub hl [] rfl)
  · replace hf := m_ifF hf cc1
    refine lv_aload_n hx hb dX12_readPosition_259 rfl (lv_at hl 0 rfl) ?_
    refine m_get (v := .int (I1 29)) X hw_readPosition hM 29 (by decide) fl_readPosition_29 rfl dX12_readPosition_260 ?_
    refine lv_if_le (tgt := 288) hx hb dX12_readPosition_263 (by decide) (fun cc1 => ?_) (fun cc1 => ?_)
    · replace hf := m_ifT hf cc1
      exact w_readPosition_288 X hret hf hM (lv_sub hl [] rfl)
    · replace hf := m_ifF hf cc1
      refine lv_aload_n hx hb dX12_readPosition_266 rfl (lv_at hl 0 rfl) ?_
      refine m_get (v := .int (I1 38)) X hw_readPosition hM 38 (by decide) fl_readPosition_38 rfl dX12_readPosition_267 ?_
      refine lv_aload_n hx hb dX12_readPosition_270 rfl (lv_at hl 0 rfl) ?_
      refine m_get (v := .int (I1 39)) X hw_readPosition hM 39 (by decide) fl_readPosition_39 rfl dX12_readPosition_271 ?_
      refine lv_icmp_ne (tgt := 288) hx hb dX12_readPosition_274 (by decide) (fun cc1 => ?_) (fun cc1 => ?_)
      · replace hf := m_ifF hf cc1
        exact w_readPosition_288 X hret hf hM (lv_sub hl [] rfl)
      · replace hf := m_ifT hf cc1
        refine lv_aload_n hx hb dX12_readPosition_277 rfl (lv_at hl 0 rfl) ?_
        obtain ⟨o2, ho, hf⟩ := m_clE hf
        refine m_callVi X hM (c_mayStand ho) gX12_readPosition_X12_mayStand rfl ⟨rfl, rfl⟩ hd_mayStand ⟨Nat.le_of_ble_eq_true rfl, Nat.le_of_ble_eq_true rfl⟩ rfl hl.1 rfl (Nat.le_of_ble_eq_true rfl) dX12_readPosition_278 (fun H locs hM => ?_)
        clear ho
        refine lv_if_eq (tgt := 288) hx hb dX12_readPosition_281 (by decide) (fun cc1 => ?_) (fun cc1 => ?_)
        · replace hf := m_ifT hf cc1
          exact w_readPosition_288 X hret hf hM (lv_sub hl [] rfl)
        · replace hf := m_ifF hf cc1
          refine lv_iconst (v := (1 : Int32)) hx hb dX12_readPosition_284 (by decide) ?_
          refine lv_goto (tgt := 289) hx hb dX12_readPosition_285 (by decide) ?_
          exact w_readPosition_289 X hret hf hM (lv_sub hl [] rfl)
noncomputable def f_readPosition_238 (t0 : Int32) (I : Nat → Int32) (A : Nat → Nat → Int32) : Option (Int32 × MS) :=
  m_if (t0 = 0) (
  f_readPosition_252 t0 (-1 : Int32) I A
  ) (
  m_cl (f_readNumber  I A) (fun r1 Ic1 Ac1 =>
  f_readPosition_252 t0 r1 Ic1 Ac1)
  )

set_option maxRecDepth 100000 in
set_option maxHeartbeats 4000000 in
theorem w_readPosition_238 {p : Program} {l : Launch} {e : Env} {s : State} {m : MethodId} {args : Array Value} {below : List Frame} {meth : Method} {c : Code} {Q : State → Prop} {D : va_G} {cy ci : ClassId} {h : Nat → Nat} {A0 : Nat → Prop} {o : Int32 × MS} (X : CallFix p m c cX12_readPosition 5 s args wsX12_readPosition RX12) (hret : mRi p l e ({ frames := 5, cells := 0, slots := 0, locals := 122 } : Room) s m args below meth c Q cX12_readPosition D cy ci h A0 .boolean o) {t0 : Int32} {I : Nat → Int32} {A : Nat → Nat → Int32} {H : Heap} {locs : List Loc} {ls : Array Slot} (hf : f_readPosition_238 t0 I A = some o) (hM : mH D cy ci h A0 s H locs I A) (hl : lv_has ls 5 [(0, .ref (h 0))]) : W p l e ({ frames := 5, cells := 0, slots := 0, locals := 122 } : Room) s m args below meth c H locs 0 0 Q (F0 m 238 ls [.int t0]) := by
  obtain ⟨hx, hb, hml, hown, hts⟩ := id X
  unfold f_readPosition_238 at hf
  refine lv_istore_n (lv' := [(3, .int t0), (0, .ref (h 0))]) hx hb dX12_readPosition_238 rfl hl (by decide) rfl (fun ls hl => ?_)
  refine lv_aload_n hx hb dX12_readPosition_239 rfl (lv_at hl 1 rfl) ?_
  refine lv_iload_n hx hb dX12_readPosition_240 rfl (lv_at hl 0 rfl) ?_
  refine lv_if_eq (tgt := 251) hx hb dX12_readPosition_241 (by decide) (fun cc1 => ?_) (fun cc1 => ?_)
  · replace hf := m_ifT hf cc1
    refine lv_iconst (v := (-1 : Int32)) hx hb dX12_readPosition_251 (by decide) ?_
    exact w_readPosition_252 X hret hf hM (lv_sub hl [1, 0] rfl)
  · replace hf := m_ifF hf cc1
    refine lv_aload_n hx hb dX12_readPosition_244 rfl (lv_at hl 1 rfl) ?_
    obtain ⟨o1, ho, hf⟩ := m_clE hf
    refine m_callVi X hM (c_readNumber ho) gX12_readPosition_X12_readNumber rfl ⟨rfl, rfl⟩ hd_readNumber ⟨Nat.le_of_ble_eq_true rfl, Nat.le_of_ble_eq_true rfl⟩ rfl hl.1 rfl (Nat.le_of_ble_eq_true rfl) dX12_readPosition_245 (fun H locs hM => ?_)
    clear ho
    refine lv_goto (tgt := 252) hx hb dX12_readPosition_248 (by decide) ?_
    exact w_readPosition_252 X hret hf hM (lv_sub hl [1, 0] rfl)
noncomputable def f_readPosition_237 (I : Nat → Int32) (A : Nat → Nat → Int32) : Option (Int32 × MS) :=
  f_readPosition_238 (0 : Int32) I A

set_option maxRecDepth 100000 in
set_option maxHeartbeats 4000000 in
theorem w_readPosition_237 {p : Program} {l : Launch} {e : Env} {s : State} {m : MethodId} {args : Array Value} {below : List Frame} {meth : Method} {c : Code} {Q : State → Prop} {D : va_G} {cy ci : ClassId} {h : Nat → Nat} {A0 : Nat → Prop} {o : Int32 × MS} (X : CallFix p m c cX12_readPosition 5 s args wsX12_readPosition RX12) (hret : mRi p l e ({ frames := 5, cells := 0, slots := 0, locals := 122 } : Room) s m args below meth c Q cX12_readPosition D cy ci h A0 .boolean o) {I : Nat → Int32} {A : Nat → Nat → Int32} {H : Heap} {locs : List Loc} {ls : Array Slot} (hf : f_readPosition_237  I A = some o) (hM : mH D cy ci h A0 s H locs I A) (hl : lv_has ls 5 [(0, .ref (h 0))]) : W p l e ({ frames := 5, cells := 0, slots := 0, locals := 122 } : Room) s m args below meth c H locs 0 0 Q (F0 m 237 ls []) := by
  obtain ⟨hx, hb, hml, hown, hts⟩ := id X
  unfold f_readPosition_237 at hf
  refine lv_iconst (v := (0 : Int32)) hx hb dX12_readPosition_237 (by decide) ?_
  exact w_readPosition_238 X hret hf hM (lv_sub hl [0] rfl)
noncomputable def f_readPosition_210 (x3 : Int32) (t0 : Int32) (I : Nat → Int32) (A : Nat → Nat → Int32) : Option (Int32 × MS) :=
  m_bnd (upd I 28 t0) (fun I1 =>
  m_if (x3 = 0) (
  f_readPosition_237  I1 A
  ) (
  m_if ((I1 28) < 0) (
  f_readPosition_237  I1 A
  ) (
  m_cl (f_pass (32 : Int32) I1 A) (fun r2 Ic2 Ac2 =>
  m_if (r2 = 0) (
  f_readPosition_237  Ic2 Ac2
  ) (
  f_readPosition_238 (1 : Int32) Ic2 Ac2
  ))
  )
  ))

set_option maxRecDepth 100000 in
set_option maxHeartbeats 4000000 in
theorem w_readPosition_210 {p : Program} {l : Launch} {e : Env} {s : State} {m : MethodId} {args : Array Value} {below : List Frame} {meth : Method} {c : Code} {Q : State → Prop} {D : va_G} {cy ci : ClassId} {h : Nat → Nat} {A0 : Nat → Prop} {o : Int32 × MS} (X : CallFix p m c cX12_readPosition 5 s args wsX12_readPosition RX12) (hret : mRi p l e ({ frames := 5, cells := 0, slots := 0, locals := 122 } : Room) s m args below meth c Q cX12_readPosition D cy ci h A0 .boolean o) {x3 : Int32} {t0 : Int32} {I : Nat → Int32} {A : Nat → Nat → Int32} {H : Heap} {locs : List Loc} {ls : Array Slot} (hf : f_readPosition_210 x3 t0 I A = some o) (hM : mH D cy ci h A0 s H locs I A) (hl : lv_has ls 5 [(0, .ref (h 0)), (3, .int x3)]) : W p l e ({ frames := 5, cells := 0, slots := 0, locals := 122 } : Room) s m args below meth c H locs 0 0 Q (F0 m 210 ls [.int t0, .ref (h 0)]) := by
  obtain ⟨hx, hb, hml, hown, hts⟩ := id X
  unfold f_readPosition_210 at hf
  refine m_put X hw_readPosition hM 28 (by decide) fl_readPosition_28 mi_28 rfl (tyX12_ok 28 (by decide)) dX12_readPosition_210 (fun H locs hM => ?_)
  obtain ⟨I1, ev, hf⟩ := m_bndE hf
  replace hM := m_hI hM ev
  clear ev
  refine lv_iload_n hx hb dX12_readPosition_213 rfl (lv_at hl 1 rfl) ?_
  refine lv_if_eq (tgt := 237) hx hb dX12_readPosition_214 (by decide) (fun cc1 => ?_) (fun cc1 => ?_)
  · replace hf := m_ifT hf cc1
    exact w_readPosition_237 X hret hf hM (lv_sub hl [0] rfl)
  · replace hf := m_ifF hf cc1
    refine lv_aload_n hx hb dX12_readPosition_217 rfl (lv_at hl 0 rfl) ?_
    refine m_get (v := .int (I1 28)) X hw_readPosition hM 28 (by decide) fl_readPosition_28 rfl dX12_readPosition_218 ?_
    refine lv_if_lt (tgt := 237) hx hb dX12_readPosition_221 (by decide) (fun cc1 => ?_) (fun cc1 => ?_)
    · replace hf := m_ifT hf cc1
      exact w_readPosition_237 X hret hf hM (lv_sub hl [0] rfl)
    · replace hf := m_ifF hf cc1
      refine lv_aload_n hx hb dX12_readPosition_224 rfl (lv_at hl 0 rfl) ?_
      refine lv_bipush (v := (32 : Int32)) hx hb dX12_readPosition_225 (by decide) ?_
      obtain ⟨o2, ho, hf⟩ := m_clE hf
      refine m_callVi X hM (c_pass ho) gX12_readPosition_X12_pass rfl ⟨rfl, rfl⟩ hd_pass ⟨Nat.le_of_ble_eq_true rfl, Nat.le_of_ble_eq_true rfl⟩ rfl hl.1 rfl (Nat.le_of_ble_eq_true rfl) dX12_readPosition_227 (fun H locs hM => ?_)
      clear ho
      refine lv_if_eq (tgt := 237) hx hb dX12_readPosition_230 (by decide) (fun cc1 => ?_) (fun cc1 => ?_)
      · replace hf := m_ifT hf cc1
        exact w_readPosition_237 X hret hf hM (lv_sub hl [0] rfl)
      · replace hf := m_ifF hf cc1
        refine lv_iconst (v := (1 : Int32)) hx hb dX12_readPosition_233 (by decide) ?_
        refine lv_goto (tgt := 238) hx hb dX12_readPosition_234 (by decide) ?_
        exact w_readPosition_238 X hret hf hM (lv_sub hl [0] rfl)
noncomputable def f_readPosition_196 (t0 : Int32) (I : Nat → Int32) (A : Nat → Nat → Int32) : Option (Int32 × MS) :=
  m_if (t0 = 0) (
  f_readPosition_210 t0 (-1 : Int32) I A
  ) (
  m_cl (f_readNumber  I A) (fun r1 Ic1 Ac1 =>
  f_readPosition_210 t0 r1 Ic1 Ac1)
  )

set_option maxRecDepth 100000 in
set_option maxHeartbeats 4000000 in
theorem w_readPosition_196 {p : Program} {l : Launch} {e : Env} {s : State} {m : MethodId} {args : Array Value} {below : List Frame} {meth : Method} {c : Code} {Q : State → Prop} {D : va_G} {cy ci : ClassId} {h : Nat → Nat} {A0 : Nat → Prop} {o : Int32 × MS} (X : CallFix p m c cX12_readPosition 5 s args wsX12_readPosition RX12) (hret : mRi p l e ({ frames := 5, cells := 0, slots := 0, locals := 122 } : Room) s m args below meth c Q cX12_readPosition D cy ci h A0 .boolean o) {t0 : Int32} {I : Nat → Int32} {A : Nat → Nat → Int32} {H : Heap} {locs : List Loc} {ls : Array Slot} (hf : f_readPosition_196 t0 I A = some o) (hM : mH D cy ci h A0 s H locs I A) (hl : lv_has ls 5 [(0, .ref (h 0))]) : W p l e ({ frames := 5, cells := 0, slots := 0, locals := 122 } : Room) s m args below meth c H locs 0 0 Q (F0 m 196 ls [.int t0]) := by
  obtain ⟨hx, hb, hml, hown, hts⟩ := id X
  unfold f_readPosition_196 at hf
  refine lv_istore_n (lv' := [(3, .int t0), (0, .ref (h 0))]) hx hb dX12_readPosition_196 rfl hl (by decide) rfl (fun ls hl => ?_)
  refine lv_aload_n hx hb dX12_readPosition_197 rfl (lv_at hl 1 rfl) ?_
  refine lv_iload_n hx hb dX12_readPosition_198 rfl (lv_at hl 0 rfl) ?_
  refine lv_if_eq (tgt := 209) hx hb dX12_readPosition_199 (by decide) (fun cc1 => ?_) (fun cc1 => ?_)
  · replace hf := m_ifT hf cc1
    refine lv_iconst (v := (-1 : Int32)) hx hb dX12_readPosition_209 (by decide) ?_
    exact w_readPosition_210 X hret hf hM (lv_sub hl [1, 0] rfl)
  · replace hf := m_ifF hf cc1
    refine lv_aload_n hx hb dX12_readPosition_202 rfl (lv_at hl 1 rfl) ?_
    obtain ⟨o1, ho, hf⟩ := m_clE hf
    refine m_callVi X hM (c_readNumber ho) gX12_readPosition_X12_readNumber rfl ⟨rfl, rfl⟩ hd_readNumber ⟨Nat.le_of_ble_eq_true rfl, Nat.le_of_ble_eq_true rfl⟩ rfl hl.1 rfl (Nat.le_of_ble_eq_true rfl) dX12_readPosition_203 (fun H locs hM => ?_)
    clear ho
    refine lv_goto (tgt := 210) hx hb dX12_readPosition_206 (by decide) ?_
    exact w_readPosition_210 X hret hf hM (lv_sub hl [1, 0] rfl)
noncomputable def f_readPosition_195 (I : Nat → Int32) (A : Nat → Nat → Int32) : Option (Int32 × MS) :=
  f_readPosition_196 (0 : Int32) I A

set_option maxRecDepth 100000 in
set_option maxHeartbeats 4000000 in
theorem w_readPosition_195 {p : Program} {l : Launch} {e : Env} {s : State} {m : MethodId} {args : Array Value} {below : List Frame} {meth : Method} {c : Code} {Q : State → Prop} {D : va_G} {cy ci : ClassId} {h : Nat → Nat} {A0 : Nat → Prop} {o : Int32 × MS} (X : CallFix p m c cX12_readPosition 5 s args wsX12_readPosition RX12) (hret : mRi p l e ({ frames := 5, cells := 0, slots := 0, locals := 122 } : Room) s m args below meth c Q cX12_readPosition D cy ci h A0 .boolean o) {I : Nat → Int32} {A : Nat → Nat → Int32} {H : Heap} {locs : List Loc} {ls : Array Slot} (hf : f_readPosition_195  I A = some o) (hM : mH D cy ci h A0 s H locs I A) (hl : lv_has ls 5 [(0, .ref (h 0))]) : W p l e ({ frames := 5, cells := 0, slots := 0, locals := 122 } : Room) s m args below meth c H locs 0 0 Q (F0 m 195 ls []) := by
  obtain ⟨hx, hb, hml, hown, hts⟩ := id X
  unfold f_readPosition_195 at hf
  refine lv_iconst (v := (0 : Int32)) hx hb dX12_readPosition_195 (by decide) ?_
  exact w_readPosition_196 X hret hf hM (lv_sub hl [0] rfl)
noncomputable def f_readPosition_135 (t0 : Int32) (I : Nat → Int32) (A : Nat → Nat → Int32) : Option (Int32 × MS) :=
  m_bnd ((I 38) + (1 : Int32)) (fun v1 =>
  m_bnd (upd I 38 v1) (fun I2 =>
  m_if (t0 = 0) (
  f_readPosition_195  I2 A
  ) (
  m_cl (f_pass (32 : Int32) I2 A) (fun r3 Ic3 Ac3 =>
  m_if (r3 = 0) (
  f_readPosition_195  Ic3 Ac3
  ) (
  m_cl (f_readRights  Ic3 Ac3) (fun r4 Ic4 Ac4 =>
  m_if (r4 = 0) (
  f_readPosition_195  Ic4 Ac4
  ) (
  m_cl (f_pass (32 : Int32) Ic4 Ac4) (fun r5 Ic5 Ac5 =>
  m_if (r5 = 0) (
  f_readPosition_195  Ic5 Ac5
  ) (
  m_cl (f_readPassed  Ic5 Ac5) (fun r6 Ic6 Ac6 =>
  m_if (r6 = 0) (
  f_readPosition_195  Ic6 Ac6
  ) (
  m_cl (f_pass (32 : Int32) Ic6 Ac6) (fun r7 Ic7 Ac7 =>
  m_if (r7 = 0) (
  f_readPosition_195  Ic7 Ac7
  ) (
  f_readPosition_196 (1 : Int32) Ic7 Ac7
  ))
  ))
  ))
  ))
  ))
  )))

set_option maxRecDepth 100000 in
set_option maxHeartbeats 4000000 in
theorem w_readPosition_135 {p : Program} {l : Launch} {e : Env} {s : State} {m : MethodId} {args : Array Value} {below : List Frame} {meth : Method} {c : Code} {Q : State → Prop} {D : va_G} {cy ci : ClassId} {h : Nat → Nat} {A0 : Nat → Prop} {o : Int32 × MS} (X : CallFix p m c cX12_readPosition 5 s args wsX12_readPosition RX12) (hret : mRi p l e ({ frames := 5, cells := 0, slots := 0, locals := 122 } : Room) s m args below meth c Q cX12_readPosition D cy ci h A0 .boolean o) {t0 : Int32} {I : Nat → Int32} {A : Nat → Nat → Int32} {H : Heap} {locs : List Loc} {ls : Array Slot} (hf : f_readPosition_135 t0 I A = some o) (hM : mH D cy ci h A0 s H locs I A) (hl : lv_has ls 5 [(0, .ref (h 0))]) : W p l e ({ frames := 5, cells := 0, slots := 0, locals := 122 } : Room) s m args below meth c H locs 0 0 Q (F0 m 135 ls [.int t0]) := by
  obtain ⟨hx, hb, hml, hown, hts⟩ := id X
  unfold f_readPosition_135 at hf
  refine lv_istore_n (lv' := [(3, .int t0), (0, .ref (h 0))]) hx hb dX12_readPosition_135 rfl hl (by decide) rfl (fun ls hl => ?_)
  refine lv_aload_n hx hb dX12_readPosition_136 rfl (lv_at hl 1 rfl) ?_
  refine lv_dup hx hb dX12_readPosition_137 rfl ?_
  refine m_get (v := .int (I 38)) X hw_readPosition hM 38 (by decide) fl_readPosition_38 rfl dX12_readPosition_138 ?_
  refine lv_iconst (v := (1 : Int32)) hx hb dX12_readPosition_141 (by decide) ?_
  refine lv_iadd hx hb dX12_readPosition_142 ?_
  obtain ⟨v1, ev, hf⟩ := m_bndE hf
  refine m_top ev ?_
  clear ev
  refine m_put X hw_readPosition hM 38 (by decide) fl_readPosition_38 mi_38 rfl (tyX12_ok 38 (by decide)) dX12_readPosition_143 (fun H locs hM => ?_)
  obtain ⟨I2, ev, hf⟩ := m_bndE hf
  replace hM := m_hI hM ev
  clear ev
  refine lv_iload_n hx hb dX12_readPosition_146 rfl (lv_at hl 0 rfl) ?_
  refine lv_if_eq (tgt := 195) hx hb dX12_readPosition_147 (by decide) (fun cc1 => ?_) (fun cc1 => ?_)
  · replace hf := m_ifT hf cc1
    exact w_readPosition_195 X hret hf hM (lv_sub hl [1] rfl)
  · replace hf := m_ifF hf cc1
    refine lv_aload_n hx hb dX12_readPosition_150 rfl (lv_at hl 1 rfl) ?_
    refine lv_bipush (v := (32 : Int32)) hx hb dX12_readPosition_151 (by decide) ?_
    obtain ⟨o3, ho, hf⟩ := m_clE hf
    refine m_callVi X hM (c_pass ho) gX12_readPosition_X12_pass rfl ⟨rfl, rfl⟩ hd_pass ⟨Nat.le_of_ble_eq_true rfl, Nat.le_of_ble_eq_true rfl⟩ rfl hl.1 rfl (Nat.le_of_ble_eq_true rfl) dX12_readPosition_153 (fun H locs hM => ?_)
    clear ho
    refine lv_if_eq (tgt := 195) hx hb dX12_readPosition_156 (by decide) (fun cc1 => ?_) (fun cc1 => ?_)
    · replace hf := m_ifT hf cc1
      exact w_readPosition_195 X hret hf hM (lv_sub hl [1] rfl)
    · replace hf := m_ifF hf cc1
      refine lv_aload_n hx hb dX12_readPosition_159 rfl (lv_at hl 1 rfl) ?_
      obtain ⟨o4, ho, hf⟩ := m_clE hf
      refine m_callVi X hM (c_readRights ho) gX12_readPosition_X12_readRights rfl ⟨rfl, rfl⟩ hd_readRights ⟨Nat.le_of_ble_eq_true rfl, Nat.le_of_ble_eq_true rfl⟩ rfl hl.1 rfl (Nat.le_of_ble_eq_true rfl) dX12_readPosition_160 (fun H locs hM => ?_)
      clear ho
      refine lv_if_eq (tgt := 195) hx hb dX12_readPosition_163 (by decide) (fun cc1 => ?_) (fun cc1 => ?_)
      · replace hf := m_ifT hf cc1
        exact w_readPosition_195 X hret hf hM (lv_sub hl [1] rfl)
      · replace hf := m_ifF hf cc1
        refine lv_aload_n hx hb dX12_readPosition_166 rfl (lv_at hl 1 rfl) ?_
        refine lv_bipush (v := (32 : Int32)) hx hb dX12_readPosition_167 (by decide) ?_
        obtain ⟨o5, ho, hf⟩ := m_clE hf
        refine m_callVi X hM (c_pass ho) gX12_readPosition_X12_pass rfl ⟨rfl, rfl⟩ hd_pass ⟨Nat.le_of_ble_eq_true rfl, Nat.le_of_ble_eq_true rfl⟩ rfl hl.1 rfl (Nat.le_of_ble_eq_true rfl) dX12_readPosition_169 (fun H locs hM => ?_)
        clear ho
        refine lv_if_eq (tgt := 195) hx hb dX12_readPosition_172 (by decide) (fun cc1 => ?_) (fun cc1 => ?_)
        · replace hf := m_ifT hf cc1
          exact w_readPosition_195 X hret hf hM (lv_sub hl [1] rfl)
        · replace hf := m_ifF hf cc1
          refine lv_aload_n hx hb dX12_readPosition_175 rfl (lv_at hl 1 rfl) ?_
          obtain ⟨o6, ho, hf⟩ := m_clE hf
          refine m_callVi X hM (c_readPassed ho) gX12_readPosition_X12_readPassed rfl ⟨rfl, rfl⟩ hd_readPassed ⟨Nat.le_of_ble_eq_true rfl, Nat.le_of_ble_eq_true rfl⟩ rfl hl.1 rfl (Nat.le_of_ble_eq_true rfl) dX12_readPosition_176 (fun H locs hM => ?_)
          clear ho
          refine lv_if_eq (tgt := 195) hx hb dX12_readPosition_179 (by decide) (fun cc1 => ?_) (fun cc1 => ?_)
          · replace hf := m_ifT hf cc1
            exact w_readPosition_195 X hret hf hM (lv_sub hl [1] rfl)
          · replace hf := m_ifF hf cc1
            refine lv_aload_n hx hb dX12_readPosition_182 rfl (lv_at hl 1 rfl) ?_
            refine lv_bipush (v := (32 : Int32)) hx hb dX12_readPosition_183 (by decide) ?_
            obtain ⟨o7, ho, hf⟩ := m_clE hf
            refine m_callVi X hM (c_pass ho) gX12_readPosition_X12_pass rfl ⟨rfl, rfl⟩ hd_pass ⟨Nat.le_of_ble_eq_true rfl, Nat.le_of_ble_eq_true rfl⟩ rfl hl.1 rfl (Nat.le_of_ble_eq_true rfl) dX12_readPosition_185 (fun H locs hM => ?_)
            clear ho
            refine lv_if_eq (tgt := 195) hx hb dX12_readPosition_188 (by decide) (fun cc1 => ?_) (fun cc1 => ?_)
            · replace hf := m_ifT hf cc1
              exact w_readPosition_195 X hret hf hM (lv_sub hl [1] rfl)
            · replace hf := m_ifF hf cc1
              refine lv_iconst (v := (1 : Int32)) hx hb dX12_readPosition_191 (by decide) ?_
              refine lv_goto (tgt := 196) hx hb dX12_readPosition_192 (by decide) ?_
              exact w_readPosition_196 X hret hf hM (lv_sub hl [1] rfl)
noncomputable def f_readPosition_130 (I : Nat → Int32) (A : Nat → Nat → Int32) : Option (Int32 × MS) :=
  f_readPosition_135 (1 : Int32) I A

set_option maxRecDepth 100000 in
set_option maxHeartbeats 4000000 in
theorem w_readPosition_130 {p : Program} {l : Launch} {e : Env} {s : State} {m : MethodId} {args : Array Value} {below : List Frame} {meth : Method} {c : Code} {Q : State → Prop} {D : va_G} {cy ci : ClassId} {h : Nat → Nat} {A0 : Nat → Prop} {o : Int32 × MS} (X : CallFix p m c cX12_readPosition 5 s args wsX12_readPosition RX12) (hret : mRi p l e ({ frames := 5, cells := 0, slots := 0, locals := 122 } : Room) s m args below meth c Q cX12_readPosition D cy ci h A0 .boolean o) {I : Nat → Int32} {A : Nat → Nat → Int32} {H : Heap} {locs : List Loc} {ls : Array Slot} (hf : f_readPosition_130  I A = some o) (hM : mH D cy ci h A0 s H locs I A) (hl : lv_has ls 5 [(0, .ref (h 0))]) : W p l e ({ frames := 5, cells := 0, slots := 0, locals := 122 } : Room) s m args below meth c H locs 0 0 Q (F0 m 130 ls []) := by
  obtain ⟨hx, hb, hml, hown, hts⟩ := id X
  unfold f_readPosition_130 at hf
  refine lv_iconst (v := (1 : Int32)) hx hb dX12_readPosition_130 (by decide) ?_
  refine lv_goto (tgt := 135) hx hb dX12_readPosition_131 (by decide) ?_
  exact w_readPosition_135 X hret hf hM (lv_sub hl [0] rfl)
noncomputable def f_readPosition_109 (t0 : Int32) (I : Nat → Int32) (A : Nat → Nat → Int32) : Option (Int32 × MS) :=
  m_bnd (upd I 25 t0) (fun I1 =>
  m_cl (f_sign  I1 A) (fun r2 Ic2 Ac2 =>
  m_if (r2 = (119 : Int32)) (
  f_readPosition_130  Ic2 Ac2
  ) (
  m_cl (f_sign  Ic2 Ac2) (fun r3 Ic3 Ac3 =>
  m_if (r3 = (98 : Int32)) (
  f_readPosition_130  Ic3 Ac3
  ) (
  f_readPosition_135 (0 : Int32) Ic3 Ac3
  ))
  )))

set_option maxRecDepth 100000 in
set_option maxHeartbeats 4000000 in
theorem w_readPosition_109 {p : Program} {l : Launch} {e : Env} {s : State} {m : MethodId} {args : Array Value} {below : List Frame} {meth : Method} {c : Code} {Q : State → Prop} {D : va_G} {cy ci : ClassId} {h : Nat → Nat} {A0 : Nat → Prop} {o : Int32 × MS} (X : CallFix p m c cX12_readPosition 5 s args wsX12_readPosition RX12) (hret : mRi p l e ({ frames := 5, cells := 0, slots := 0, locals := 122 } : Room) s m args below meth c Q cX12_readPosition D cy ci h A0 .boolean o) {t0 : Int32} {I : Nat → Int32} {A : Nat → Nat → Int32} {H : Heap} {locs : List Loc} {ls : Array Slot} (hf : f_readPosition_109 t0 I A = some o) (hM : mH D cy ci h A0 s H locs I A) (hl : lv_has ls 5 [(0, .ref (h 0))]) : W p l e ({ frames := 5, cells := 0, slots := 0, locals := 122 } : Room) s m args below meth c H locs 0 0 Q (F0 m 109 ls [.int t0, .ref (h 0)]) := by
  obtain ⟨hx, hb, hml, hown, hts⟩ := id X
  unfold f_readPosition_109 at hf
  refine m_put X hw_readPosition hM 25 (by decide) fl_readPosition_25 mi_25 rfl (tyX12_ok 25 (by decide)) dX12_readPosition_109 (fun H locs hM => ?_)
  obtain ⟨I1, ev, hf⟩ := m_bndE hf
  replace hM := m_hI hM ev
  clear ev
  refine lv_aload_n hx hb dX12_readPosition_112 rfl (lv_at hl 0 rfl) ?_
  obtain ⟨o2, ho, hf⟩ := m_clE hf
  refine m_callVi X hM (c_sign ho) gX12_readPosition_X12_sign rfl ⟨rfl, rfl⟩ hd_sign ⟨Nat.le_of_ble_eq_true rfl, Nat.le_of_ble_eq_true rfl⟩ rfl hl.1 rfl (Nat.le_of_ble_eq_true rfl) dX12_readPosition_113 (fun H locs hM => ?_)
  clear ho
  refine lv_bipush (v := (119 : Int32)) hx hb dX12_readPosition_116 (by decide) ?_
  refine lv_icmp_eq (tgt := 130) hx hb dX12_readPosition_118 (by decide) (fun cc1 => ?_) (fun cc1 => ?_)
  · replace hf := m_ifT hf cc1
    exact w_readPosition_130 X hret hf hM (lv_sub hl [0] rfl)
  · replace hf := m_ifF hf cc1
    refine lv_aload_n hx hb dX12_readPosition_121 rfl (lv_at hl 0 rfl) ?_
    obtain ⟨o3, ho, hf⟩ := m_clE hf
    refine m_callVi X hM (c_sign ho) gX12_readPosition_X12_sign rfl ⟨rfl, rfl⟩ hd_sign ⟨Nat.le_of_ble_eq_true rfl, Nat.le_of_ble_eq_true rfl⟩ rfl hl.1 rfl (Nat.le_of_ble_eq_true rfl) dX12_readPosition_122 (fun H locs hM => ?_)
    clear ho
    refine lv_bipush (v := (98 : Int32)) hx hb dX12_readPosition_125 (by decide) ?_
    refine lv_icmp_ne (tgt := 134) hx hb dX12_readPosition_127 (by decide) (fun cc1 => ?_) (fun cc1 => ?_)
    · replace hf := m_ifF hf cc1
      refine lv_iconst (v := (0 : Int32)) hx hb dX12_readPosition_134 (by decide) ?_
      exact w_readPosition_135 X hret hf hM (lv_sub hl [0] rfl)
    · replace hf := m_ifT hf cc1
      exact w_readPosition_130 X hret hf hM (lv_sub hl [0] rfl)
noncomputable def f_readPosition_81 (self39 : Int32 → Int32 → (Nat → Int32) → (Nat → Nat → Int32) → Option (Int32 × MS)) (x4 : Int32) (t0 : Int32) (I : Nat → Int32) (A : Nat → Nat → Int32) : Option (Int32 × MS) :=
  m_bnd (x4 + (-1 : Int32)) (fun v1 =>
  self39 t0 v1 I A)

set_option maxRecDepth 100000 in
set_option maxHeartbeats 4000000 in
theorem w_readPosition_81 {p : Program} {l : Launch} {e : Env} {s : State} {m : MethodId} {args : Array Value} {below : List Frame} {meth : Method} {c : Code} {Q : State → Prop} {D : va_G} {cy ci : ClassId} {h : Nat → Nat} {A0 : Nat → Prop} {o : Int32 × MS} (X : CallFix p m c cX12_readPosition 5 s args wsX12_readPosition RX12) (hret : mRi p l e ({ frames := 5, cells := 0, slots := 0, locals := 122 } : Room) s m args below meth c Q cX12_readPosition D cy ci h A0 .boolean o) {self39 : Int32 → Int32 → (Nat → Int32) → (Nat → Nat → Int32) → Option (Int32 × MS)} (hself39 : ∀ (x3 : Int32) (x4 : Int32) (I : Nat → Int32) (A : Nat → Nat → Int32) (H : Heap) (locs : List Loc) (ls : Array Slot), self39 x3 x4 I A = some o → mH D cy ci h A0 s H locs I A → lv_has ls 5 [(0, .ref (h 0)), (3, .int x3), (4, .int x4)] → W p l e ({ frames := 5, cells := 0, slots := 0, locals := 122 } : Room) s m args below meth c H locs 0 0 Q (F0 m 39 ls [])) {x4 : Int32} {t0 : Int32} {I : Nat → Int32} {A : Nat → Nat → Int32} {H : Heap} {locs : List Loc} {ls : Array Slot} (hf : f_readPosition_81 self39 x4 t0 I A = some o) (hM : mH D cy ci h A0 s H locs I A) (hl : lv_has ls 5 [(0, .ref (h 0)), (4, .int x4)]) : W p l e ({ frames := 5, cells := 0, slots := 0, locals := 122 } : Room) s m args below meth c H locs 0 0 Q (F0 m 81 ls [.int t0]) := by
  obtain ⟨hx, hb, hml, hown, hts⟩ := id X
  unfold f_readPosition_81 at hf
  refine lv_istore_n (lv' := [(3, .int t0), (0, .ref (h 0)), (4, .int x4)]) hx hb dX12_readPosition_81 rfl hl (by decide) rfl (fun ls hl => ?_)
  obtain ⟨v1, ev, hf⟩ := m_bndE hf
  refine lv_iinc (v := v1) (lv' := [(4, .int v1), (3, .int t0), (0, .ref (h 0))]) hx hb dX12_readPosition_82 hl (k := 2) rfl (by rw [ev]; rfl) (by decide) rfl (fun ls hl => ?_)
  clear ev
  refine lv_goto (tgt := 39) hx hb dX12_readPosition_85 (by decide) ?_
  exact hself39 _ _ _ _ _ _ _ hf hM (lv_sub hl [2, 1, 0] rfl)
noncomputable def f_readPosition_80 (self39 : Int32 → Int32 → (Nat → Int32) → (Nat → Nat → Int32) → Option (Int32 × MS)) (x4 : Int32) (I : Nat → Int32) (A : Nat → Nat → Int32) : Option (Int32 × MS) :=
  f_readPosition_81 self39 x4 (0 : Int32) I A

set_option maxRecDepth 100000 in
set_option maxHeartbeats 4000000 in
theorem w_readPosition_80 {p : Program} {l : Launch} {e : Env} {s : State} {m : MethodId} {args : Array Value} {below : List Frame} {meth : Method} {c : Code} {Q : State → Prop} {D : va_G} {cy ci : ClassId} {h : Nat → Nat} {A0 : Nat → Prop} {o : Int32 × MS} (X : CallFix p m c cX12_readPosition 5 s args wsX12_readPosition RX12) (hret : mRi p l e ({ frames := 5, cells := 0, slots := 0, locals := 122 } : Room) s m args below meth c Q cX12_readPosition D cy ci h A0 .boolean o) {self39 : Int32 → Int32 → (Nat → Int32) → (Nat → Nat → Int32) → Option (Int32 × MS)} (hself39 : ∀ (x3 : Int32) (x4 : Int32) (I : Nat → Int32) (A : Nat → Nat → Int32) (H : Heap) (locs : List Loc) (ls : Array Slot), self39 x3 x4 I A = some o → mH D cy ci h A0 s H locs I A → lv_has ls 5 [(0, .ref (h 0)), (3, .int x3), (4, .int x4)] → W p l e ({ frames := 5, cells := 0, slots := 0, locals := 122 } : Room) s m args below meth c H locs 0 0 Q (F0 m 39 ls [])) {x4 : Int32} {I : Nat → Int32} {A : Nat → Nat → Int32} {H : Heap} {locs : List Loc} {ls : Array Slot} (hf : f_readPosition_80 self39 x4 I A = some o) (hM : mH D cy ci h A0 s H locs I A) (hl : lv_has ls 5 [(0, .ref (h 0)), (4, .int x4)]) : W p l e ({ frames := 5, cells := 0, slots := 0, locals := 122 } : Room) s m args below meth c H locs 0 0 Q (F0 m 80 ls []) := by
  obtain ⟨hx, hb, hml, hown, hts⟩ := id X
  unfold f_readPosition_80 at hf
  refine lv_iconst (v := (0 : Int32)) hx hb dX12_readPosition_80 (by decide) ?_
  exact w_readPosition_81 X hret hself39 hf hM (lv_sub hl [0, 1] rfl)
noncomputable def f_readPosition_70 (self39 : Int32 → Int32 → (Nat → Int32) → (Nat → Nat → Int32) → Option (Int32 × MS)) (x4 : Int32) (t0 : Int32) (I : Nat → Int32) (A : Nat → Nat → Int32) : Option (Int32 × MS) :=
  m_cl (f_pass t0 I A) (fun r1 Ic1 Ac1 =>
  m_if (r1 = 0) (
  f_readPosition_80 self39 x4 Ic1 Ac1
  ) (
  f_readPosition_81 self39 x4 (1 : Int32) Ic1 Ac1
  ))

set_option maxRecDepth 100000 in
set_option maxHeartbeats 4000000 in
theorem w_readPosition_70 {p : Program} {l : Launch} {e : Env} {s : State} {m : MethodId} {args : Array Value} {below : List Frame} {meth : Method} {c : Code} {Q : State → Prop} {D : va_G} {cy ci : ClassId} {h : Nat → Nat} {A0 : Nat → Prop} {o : Int32 × MS} (X : CallFix p m c cX12_readPosition 5 s args wsX12_readPosition RX12) (hret : mRi p l e ({ frames := 5, cells := 0, slots := 0, locals := 122 } : Room) s m args below meth c Q cX12_readPosition D cy ci h A0 .boolean o) {self39 : Int32 → Int32 → (Nat → Int32) → (Nat → Nat → Int32) → Option (Int32 × MS)} (hself39 : ∀ (x3 : Int32) (x4 : Int32) (I : Nat → Int32) (A : Nat → Nat → Int32) (H : Heap) (locs : List Loc) (ls : Array Slot), self39 x3 x4 I A = some o → mH D cy ci h A0 s H locs I A → lv_has ls 5 [(0, .ref (h 0)), (3, .int x3), (4, .int x4)] → W p l e ({ frames := 5, cells := 0, slots := 0, locals := 122 } : Room) s m args below meth c H locs 0 0 Q (F0 m 39 ls [])) {x4 : Int32} {t0 : Int32} {I : Nat → Int32} {A : Nat → Nat → Int32} {H : Heap} {locs : List Loc} {ls : Array Slot} (hf : f_readPosition_70 self39 x4 t0 I A = some o) (hM : mH D cy ci h A0 s H locs I A) (hl : lv_has ls 5 [(0, .ref (h 0)), (4, .int x4)]) : W p l e ({ frames := 5, cells := 0, slots := 0, locals := 122 } : Room) s m args below meth c H locs 0 0 Q (F0 m 70 ls [.int t0, .ref (h 0)]) := by
  obtain ⟨hx, hb, hml, hown, hts⟩ := id X
  unfold f_readPosition_70 at hf
  obtain ⟨o1, ho, hf⟩ := m_clE hf
  refine m_callVi X hM (c_pass ho) gX12_readPosition_X12_pass rfl ⟨rfl, rfl⟩ hd_pass ⟨Nat.le_of_ble_eq_true rfl, Nat.le_of_ble_eq_true rfl⟩ rfl hl.1 rfl (Nat.le_of_ble_eq_true rfl) dX12_readPosition_70 (fun H locs hM => ?_)
  clear ho
  refine lv_if_eq (tgt := 80) hx hb dX12_readPosition_73 (by decide) (fun cc1 => ?_) (fun cc1 => ?_)
  · replace hf := m_ifT hf cc1
    exact w_readPosition_80 X hret hself39 hf hM (lv_sub hl [0, 1] rfl)
  · replace hf := m_ifF hf cc1
    refine lv_iconst (v := (1 : Int32)) hx hb dX12_readPosition_76 (by decide) ?_
    refine lv_goto (tgt := 81) hx hb dX12_readPosition_77 (by decide) ?_
    exact w_readPosition_81 X hret hself39 hf hM (lv_sub hl [0, 1] rfl)
noncomputable def f_readPosition_39s (self39 : Int32 → Int32 → (Nat → Int32) → (Nat → Nat → Int32) → Option (Int32 × MS)) (x3 : Int32) (x4 : Int32) (I : Nat → Int32) (A : Nat → Nat → Int32) : Option (Int32 × MS) :=
  m_if (x4 < 0) (
  m_if (x3 = 0) (
  m_chk (vp_nar .boolean (0 : Int32) = (0 : Int32)) (some ((0 : Int32), (I, A)))
  ) (
  m_cl (f_sign  I A) (fun r1 Ic1 Ac1 =>
  m_if (r1 = (119 : Int32)) (
  f_readPosition_109 (0 : Int32) Ic1 Ac1
  ) (
  f_readPosition_109 (1 : Int32) Ic1 Ac1
  ))
  )
  ) (
  m_if (x3 = 0) (
  f_readPosition_80 self39 x4 I A
  ) (
  m_cl (f_readRank x4 I A) (fun r2 Ic2 Ac2 =>
  m_if (r2 = 0) (
  f_readPosition_80 self39 x4 Ic2 Ac2
  ) (
  m_if (x4 ≤ 0) (
  f_readPosition_70 self39 x4 (32 : Int32) Ic2 Ac2
  ) (
  f_readPosition_70 self39 x4 (47 : Int32) Ic2 Ac2
  )
  ))
  )
  )

set_option maxRecDepth 100000 in
set_option maxHeartbeats 4000000 in
theorem ws_readPosition_39 {p : Program} {l : Launch} {e : Env} {s : State} {m : MethodId} {args : Array Value} {below : List Frame} {meth : Method} {c : Code} {Q : State → Prop} {D : va_G} {cy ci : ClassId} {h : Nat → Nat} {A0 : Nat → Prop} {o : Int32 × MS} (X : CallFix p m c cX12_readPosition 5 s args wsX12_readPosition RX12) (hret : mRi p l e ({ frames := 5, cells := 0, slots := 0, locals := 122 } : Room) s m args below meth c Q cX12_readPosition D cy ci h A0 .boolean o) {self39 : Int32 → Int32 → (Nat → Int32) → (Nat → Nat → Int32) → Option (Int32 × MS)} (hself39 : ∀ (x3 : Int32) (x4 : Int32) (I : Nat → Int32) (A : Nat → Nat → Int32) (H : Heap) (locs : List Loc) (ls : Array Slot), self39 x3 x4 I A = some o → mH D cy ci h A0 s H locs I A → lv_has ls 5 [(0, .ref (h 0)), (3, .int x3), (4, .int x4)] → W p l e ({ frames := 5, cells := 0, slots := 0, locals := 122 } : Room) s m args below meth c H locs 0 0 Q (F0 m 39 ls [])) {x3 : Int32} {x4 : Int32} {I : Nat → Int32} {A : Nat → Nat → Int32} {H : Heap} {locs : List Loc} {ls : Array Slot} (hf : f_readPosition_39s self39 x3 x4 I A = some o) (hM : mH D cy ci h A0 s H locs I A) (hl : lv_has ls 5 [(0, .ref (h 0)), (3, .int x3), (4, .int x4)]) : W p l e ({ frames := 5, cells := 0, slots := 0, locals := 122 } : Room) s m args below meth c H locs 0 0 Q (F0 m 39 ls []) := by
  obtain ⟨hx, hb, hml, hown, hts⟩ := id X
  unfold f_readPosition_39s at hf
  refine lv_iload hx hb dX12_readPosition_39 (lv_at hl 2 rfl) ?_
  refine lv_if_lt (tgt := 88) hx hb dX12_readPosition_41 (by decide) (fun cc1 => ?_) (fun cc1 => ?_)
  · replace hf := m_ifT hf cc1
    refine lv_iload_n hx hb dX12_readPosition_88 rfl (lv_at hl 1 rfl) ?_
    refine lv_if_ne (tgt := 94) hx hb dX12_readPosition_89 (by decide) (fun cc1 => ?_) (fun cc1 => ?_)
    · replace hf := m_ifF hf cc1
      refine lv_aload_n hx hb dX12_readPosition_94 rfl (lv_at hl 0 rfl) ?_
      refine lv_aload_n hx hb dX12_readPosition_95 rfl (lv_at hl 0 rfl) ?_
      obtain ⟨o1, ho, hf⟩ := m_clE hf
      refine m_callVi X hM (c_sign ho) gX12_readPosition_X12_sign rfl ⟨rfl, rfl⟩ hd_sign ⟨Nat.le_of_ble_eq_true rfl, Nat.le_of_ble_eq_true rfl⟩ rfl hl.1 rfl (Nat.le_of_ble_eq_true rfl) dX12_readPosition_96 (fun H locs hM => ?_)
      clear ho
      refine lv_bipush (v := (119 : Int32)) hx hb dX12_readPosition_99 (by decide) ?_
      refine lv_icmp_ne (tgt := 108) hx hb dX12_readPosition_101 (by decide) (fun cc1 => ?_) (fun cc1 => ?_)
      · replace hf := m_ifF hf cc1
        refine lv_iconst (v := (1 : Int32)) hx hb dX12_readPosition_108 (by decide) ?_
        exact w_readPosition_109 X hret hf hM (lv_sub hl [0] rfl)
      · replace hf := m_ifT hf cc1
        refine lv_iconst (v := (0 : Int32)) hx hb dX12_readPosition_104 (by decide) ?_
        refine lv_goto (tgt := 109) hx hb dX12_readPosition_105 (by decide) ?_
        exact w_readPosition_109 X hret hf hM (lv_sub hl [0] rfl)
    · replace hf := m_ifT hf cc1
      refine lv_iconst (v := (0 : Int32)) hx hb dX12_readPosition_92 (by decide) ?_
      obtain ⟨cd, hf⟩ := m_chkE hf
      cases hf
      exact hret H locs _ ls hM (m_nb cd) dX12_readPosition_93
  · replace hf := m_ifF hf cc1
    refine lv_iload_n hx hb dX12_readPosition_44 rfl (lv_at hl 1 rfl) ?_
    refine lv_if_eq (tgt := 80) hx hb dX12_readPosition_45 (by decide) (fun cc1 => ?_) (fun cc1 => ?_)
    · replace hf := m_ifT hf cc1
      exact w_readPosition_80 X hret hself39 hf hM (lv_sub hl [0, 2] rfl)
    · replace hf := m_ifF hf cc1
      refine lv_aload_n hx hb dX12_readPosition_48 rfl (lv_at hl 0 rfl) ?_
      refine lv_iload hx hb dX12_readPosition_49 (lv_at hl 2 rfl) ?_
      obtain ⟨o2, ho, hf⟩ := m_clE hf
      refine m_callVi X hM (c_readRank ho) gX12_readPosition_X12_readRank rfl ⟨rfl, rfl⟩ hd_readRank ⟨Nat.le_of_ble_eq_true rfl, Nat.le_of_ble_eq_true rfl⟩ rfl hl.1 rfl (Nat.le_of_ble_eq_true rfl) dX12_readPosition_51 (fun H locs hM => ?_)
      clear ho
      refine lv_if_eq (tgt := 80) hx hb dX12_readPosition_54 (by decide) (fun cc1 => ?_) (fun cc1 => ?_)
      · replace hf := m_ifT hf cc1
        exact w_readPosition_80 X hret hself39 hf hM (lv_sub hl [0, 2] rfl)
      · replace hf := m_ifF hf cc1
        refine lv_aload_n hx hb dX12_readPosition_57 rfl (lv_at hl 0 rfl) ?_
        refine lv_iload hx hb dX12_readPosition_58 (lv_at hl 2 rfl) ?_
        refine lv_if_le (tgt := 68) hx hb dX12_readPosition_60 (by decide) (fun cc1 => ?_) (fun cc1 => ?_)
        · replace hf := m_ifT hf cc1
          refine lv_bipush (v := (32 : Int32)) hx hb dX12_readPosition_68 (by decide) ?_
          exact w_readPosition_70 X hret hself39 hf hM (lv_sub hl [0, 2] rfl)
        · replace hf := m_ifF hf cc1
          refine lv_bipush (v := (47 : Int32)) hx hb dX12_readPosition_63 (by decide) ?_
          refine lv_goto (tgt := 70) hx hb dX12_readPosition_65 (by decide) ?_
          exact w_readPosition_70 X hret hself39 hf hM (lv_sub hl [0, 2] rfl)
noncomputable def f_readPosition_39 : Nat → Int32 → Int32 → (Nat → Int32) → (Nat → Nat → Int32) → Option (Int32 × MS)
  | 0 => fun _ _ _ _ => none
  | n + 1 => f_readPosition_39s (f_readPosition_39 n)
theorem w_readPosition_39 {p : Program} {l : Launch} {e : Env} {s : State} {m : MethodId} {args : Array Value} {below : List Frame} {meth : Method} {c : Code} {Q : State → Prop} {D : va_G} {cy ci : ClassId} {h : Nat → Nat} {A0 : Nat → Prop} {o : Int32 × MS} (X : CallFix p m c cX12_readPosition 5 s args wsX12_readPosition RX12) (hret : mRi p l e ({ frames := 5, cells := 0, slots := 0, locals := 122 } : Room) s m args below meth c Q cX12_readPosition D cy ci h A0 .boolean o) (n : Nat) : ∀ (x3 : Int32) (x4 : Int32) (I : Nat → Int32) (A : Nat → Nat → Int32) (H : Heap) (locs : List Loc) (ls : Array Slot), f_readPosition_39 n x3 x4 I A = some o → mH D cy ci h A0 s H locs I A → lv_has ls 5 [(0, .ref (h 0)), (3, .int x3), (4, .int x4)] → W p l e ({ frames := 5, cells := 0, slots := 0, locals := 122 } : Room) s m args below meth c H locs 0 0 Q (F0 m 39 ls []) := by
  induction n with
  | zero => intro x3 x4 I A H locs ls hf; cases hf
  | succ n ih => intro x3 x4 I A H locs ls hf hM hl; exact ws_readPosition_39 X hret (self39 := f_readPosition_39 n) ih hf hM hl
noncomputable def f_readPosition_14s (self14 : Int32 → (Nat → Int32) → (Nat → Nat → Int32) → Option (Int32 × MS)) (x3 : Int32) (I : Nat → Int32) (A : Nat → Nat → Int32) : Option (Int32 × MS) :=
  m_if ((64 : Int32) ≤ x3) (
  f_readPosition_39 mFuel (1 : Int32) (7 : Int32) I A
  ) (
  m_chk (¬ (x3 < 0 ∨ 64 ≤ (x3).toNatClampNeg)) (
  m_bnd (va_up A 24 (upd (A 24) (x3).toNatClampNeg (0 : Int32))) (fun A1 =>
  m_bnd (x3 + (1 : Int32)) (fun v2 =>
  self14 v2 I A1)))
  )

set_option maxRecDepth 100000 in
set_option maxHeartbeats 4000000 in
theorem ws_readPosition_14 {p : Program} {l : Launch} {e : Env} {s : State} {m : MethodId} {args : Array Value} {below : List Frame} {meth : Method} {c : Code} {Q : State → Prop} {D : va_G} {cy ci : ClassId} {h : Nat → Nat} {A0 : Nat → Prop} {o : Int32 × MS} (X : CallFix p m c cX12_readPosition 5 s args wsX12_readPosition RX12) (hret : mRi p l e ({ frames := 5, cells := 0, slots := 0, locals := 122 } : Room) s m args below meth c Q cX12_readPosition D cy ci h A0 .boolean o) {self14 : Int32 → (Nat → Int32) → (Nat → Nat → Int32) → Option (Int32 × MS)} (hself14 : ∀ (x3 : Int32) (I : Nat → Int32) (A : Nat → Nat → Int32) (H : Heap) (locs : List Loc) (ls : Array Slot), self14 x3 I A = some o → mH D cy ci h A0 s H locs I A → lv_has ls 5 [(0, .ref (h 0)), (3, .int x3)] → W p l e ({ frames := 5, cells := 0, slots := 0, locals := 122 } : Room) s m args below meth c H locs 0 0 Q (F0 m 14 ls [])) {x3 : Int32} {I : Nat → Int32} {A : Nat → Nat → Int32} {H : Heap} {locs : List Loc} {ls : Array Slot} (hf : f_readPosition_14s self14 x3 I A = some o) (hM : mH D cy ci h A0 s H locs I A) (hl : lv_has ls 5 [(0, .ref (h 0)), (3, .int x3)]) : W p l e ({ frames := 5, cells := 0, slots := 0, locals := 122 } : Room) s m args below meth c H locs 0 0 Q (F0 m 14 ls []) := by
  obtain ⟨hx, hb, hml, hown, hts⟩ := id X
  unfold f_readPosition_14s at hf
  refine lv_iload_n hx hb dX12_readPosition_14 rfl (lv_at hl 1 rfl) ?_
  refine lv_bipush (v := (64 : Int32)) hx hb dX12_readPosition_15 (by decide) ?_
  refine lv_icmp_ge (tgt := 33) hx hb dX12_readPosition_17 (by decide) (fun cc1 => ?_) (fun cc1 => ?_)
  · replace hf := m_ifT hf cc1
    refine lv_iconst (v := (1 : Int32)) hx hb dX12_readPosition_33 (by decide) ?_
    refine lv_istore_n (lv' := [(3, .int (1 : Int32)), (0, .ref (h 0))]) hx hb dX12_readPosition_34 rfl hl (by decide) rfl (fun ls hl => ?_)
    refine lv_bipush (v := (7 : Int32)) hx hb dX12_readPosition_35 (by decide) ?_
    refine lv_istore (lv' := [(4, .int (7 : Int32)), (3, .int (1 : Int32)), (0, .ref (h 0))]) hx hb dX12_readPosition_37 hl (by decide) rfl (fun ls hl => ?_)
    exact w_readPosition_39 X hret _ _ _ _ _ _ _ _ hf hM (lv_sub hl [2, 1, 0] rfl)
  · replace hf := m_ifF hf cc1
    refine lv_aload_n hx hb dX12_readPosition_20 rfl (lv_at hl 0 rfl) ?_
    refine m_get (v := .ref (h 24)) X hw_readPosition hM 24 (by decide) fl_readPosition_24 rfl dX12_readPosition_21 ?_
    refine lv_iload_n hx hb dX12_readPosition_24 rfl (lv_at hl 1 rfl) ?_
    refine lv_iconst (v := (0 : Int32)) hx hb dX12_readPosition_25 (by decide) ?_
    obtain ⟨cd, hf⟩ := m_chkE hf
    refine m_iast X hM 24 20 64 rfl ma_24 cd dX12_readPosition_26 (fun H locs hM => ?_)
    clear cd
    obtain ⟨A1, ev, hf⟩ := m_bndE hf
    replace hM := m_hA hM ev
    clear ev
    obtain ⟨v2, ev, hf⟩ := m_bndE hf
    refine lv_iinc (v := v2) (lv' := [(3, .int v2), (0, .ref (h 0))]) hx hb dX12_readPosition_27 hl (k := 1) rfl (by rw [ev]; rfl) (by decide) rfl (fun ls hl => ?_)
    clear ev
    refine lv_goto (tgt := 14) hx hb dX12_readPosition_30 (by decide) ?_
    exact hself14 _ _ _ _ _ _ hf hM (lv_sub hl [1, 0] rfl)
noncomputable def f_readPosition_14 : Nat → Int32 → (Nat → Int32) → (Nat → Nat → Int32) → Option (Int32 × MS)
  | 0 => fun _ _ _ => none
  | n + 1 => f_readPosition_14s (f_readPosition_14 n)
theorem w_readPosition_14 {p : Program} {l : Launch} {e : Env} {s : State} {m : MethodId} {args : Array Value} {below : List Frame} {meth : Method} {c : Code} {Q : State → Prop} {D : va_G} {cy ci : ClassId} {h : Nat → Nat} {A0 : Nat → Prop} {o : Int32 × MS} (X : CallFix p m c cX12_readPosition 5 s args wsX12_readPosition RX12) (hret : mRi p l e ({ frames := 5, cells := 0, slots := 0, locals := 122 } : Room) s m args below meth c Q cX12_readPosition D cy ci h A0 .boolean o) (n : Nat) : ∀ (x3 : Int32) (I : Nat → Int32) (A : Nat → Nat → Int32) (H : Heap) (locs : List Loc) (ls : Array Slot), f_readPosition_14 n x3 I A = some o → mH D cy ci h A0 s H locs I A → lv_has ls 5 [(0, .ref (h 0)), (3, .int x3)] → W p l e ({ frames := 5, cells := 0, slots := 0, locals := 122 } : Room) s m args below meth c H locs 0 0 Q (F0 m 14 ls []) := by
  induction n with
  | zero => intro x3 I A H locs ls hf; cases hf
  | succ n ih => intro x3 I A H locs ls hf hM hl; exact ws_readPosition_14 X hret (self14 := f_readPosition_14 n) ih hf hM hl
noncomputable def f_readPosition_0 (x1 : Int32) (x2 : Int32) (I : Nat → Int32) (A : Nat → Nat → Int32) : Option (Int32 × MS) :=
  m_bnd (upd I 38 x1) (fun I1 =>
  m_bnd (x1 + x2) (fun v2 =>
  m_bnd (upd I1 39 v2) (fun I3 =>
  f_readPosition_14 mFuel (0 : Int32) I3 A)))

set_option maxRecDepth 100000 in
set_option maxHeartbeats 4000000 in
theorem w_readPosition_0 {p : Program} {l : Launch} {e : Env} {s : State} {m : MethodId} {args : Array Value} {below : List Frame} {meth : Method} {c : Code} {Q : State → Prop} {D : va_G} {cy ci : ClassId} {h : Nat → Nat} {A0 : Nat → Prop} {o : Int32 × MS} (X : CallFix p m c cX12_readPosition 5 s args wsX12_readPosition RX12) (hret : mRi p l e ({ frames := 5, cells := 0, slots := 0, locals := 122 } : Room) s m args below meth c Q cX12_readPosition D cy ci h A0 .boolean o) {x1 : Int32} {x2 : Int32} {I : Nat → Int32} {A : Nat → Nat → Int32} {H : Heap} {locs : List Loc} {ls : Array Slot} (hf : f_readPosition_0 x1 x2 I A = some o) (hM : mH D cy ci h A0 s H locs I A) (hl : lv_has ls 5 [(0, .ref (h 0)), (1, .int x1), (2, .int x2)]) : W p l e ({ frames := 5, cells := 0, slots := 0, locals := 122 } : Room) s m args below meth c H locs 0 0 Q (F0 m 0 ls []) := by
  obtain ⟨hx, hb, hml, hown, hts⟩ := id X
  unfold f_readPosition_0 at hf
  refine lv_aload_n hx hb dX12_readPosition_0 rfl (lv_at hl 0 rfl) ?_
  refine lv_iload_n hx hb dX12_readPosition_1 rfl (lv_at hl 1 rfl) ?_
  refine m_put X hw_readPosition hM 38 (by decide) fl_readPosition_38 mi_38 rfl (tyX12_ok 38 (by decide)) dX12_readPosition_2 (fun H locs hM => ?_)
  obtain ⟨I1, ev, hf⟩ := m_bndE hf
  replace hM := m_hI hM ev
  clear ev
  refine lv_aload_n hx hb dX12_readPosition_5 rfl (lv_at hl 0 rfl) ?_
  refine lv_iload_n hx hb dX12_readPosition_6 rfl (lv_at hl 1 rfl) ?_
  refine lv_iload_n hx hb dX12_readPosition_7 rfl (lv_at hl 2 rfl) ?_
  refine lv_iadd hx hb dX12_readPosition_8 ?_
  obtain ⟨v2, ev, hf⟩ := m_bndE hf
  refine m_top ev ?_
  clear ev
  refine m_put X hw_readPosition hM 39 (by decide) fl_readPosition_39 mi_39 rfl (tyX12_ok 39 (by decide)) dX12_readPosition_9 (fun H locs hM => ?_)
  obtain ⟨I3, ev, hf⟩ := m_bndE hf
  replace hM := m_hI hM ev
  clear ev
  refine lv_iconst (v := (0 : Int32)) hx hb dX12_readPosition_12 (by decide) ?_
  refine lv_istore_n (lv' := [(3, .int (0 : Int32)), (0, .ref (h 0)), (1, .int x1), (2, .int x2)]) hx hb dX12_readPosition_13 rfl hl (by decide) rfl (fun ls hl => ?_)
  exact w_readPosition_14 X hret _ _ _ _ _ _ _ hf hM (lv_sub hl [1, 0] rfl)
noncomputable def f_readPosition (x1 : Int32) (x2 : Int32) (I : Nat → Int32) (A : Nat → Nat → Int32) : Option (Int32 × MS) := f_readPosition_0 x1 x2 I A
theorem c_readPosition {l : Launch} {D : va_G} {cy ci : ClassId} {h : Nat → Nat} {x1 : Int32} {x2 : Int32} {I : Nat → Int32} {A : Nat → Nat → Int32} {o : Int32 × MS} (hf : f_readPosition x1 x2 I A = some o) : mMi l yX12_readPosition wsX12_readPosition ({ frames := 5, cells := 0, slots := 0, locals := 122 } : Room) [.ref (h 0), .int x1, .int x2] D cy ci h I A o :=
  m_entryI (cc := cX12_readPosition) (maxL := 5) (by decide) rfl rfl (Nat.le_of_ble_eq_true rfl) (fun p e s m args below meth c A0 Q H locs ls X hret hM hl => w_readPosition_0 X hret hf hM (lv_sub hl [0, 1, 2] rfl))
theorem hw_look : ∀ w ∈ wsX120, w ∈ wsX12_look := by decide +kernel
theorem fl_look_1 : Cond.fieldLink RX12 270 "MoveTextsModel" "typed" "I" ∈ wsX12_look := by decide +kernel
theorem fl_look_2 : Cond.fieldLink RX12 7 "MoveTextsModel" "text" "[C" ∈ wsX12_look := by decide +kernel
theorem fl_look_37 : Cond.fieldLink RX12 267 "MoveTextsModel" "at" "I" ∈ wsX12_look := by decide +kernel
theorem hd_look : yX12_look.cls = RX12 ∧ yX12_look.cls ≠ "java/lang/invoke/MethodHandle" ∧ yX12_look.cls ≠ "java/lang/invoke/VarHandle" ∧ (parseMethodDescriptor yX12_look.desc).map (fun d => d.parameters.length) = some 0 := by decide +kernel
noncomputable def f_look_24 (t0 : Int32) (I : Nat → Int32) (A : Nat → Nat → Int32) : Option (Int32 × MS) :=
  m_chk (vp_nar .char t0 = t0) (some (t0, (I, A)))

set_option maxRecDepth 100000 in
set_option maxHeartbeats 4000000 in
theorem w_look_24 {p : Program} {l : Launch} {e : Env} {s : State} {m : MethodId} {args : Array Value} {below : List Frame} {meth : Method} {c : Code} {Q : State → Prop} {D : va_G} {cy ci : ClassId} {h : Nat → Nat} {A0 : Nat → Prop} {o : Int32 × MS} (X : CallFix p m c cX12_look 1 s args wsX12_look RX12) (hret : mRi p l e ({ frames := 0, cells := 0, slots := 0, locals := 0 } : Room) s m args below meth c Q cX12_look D cy ci h A0 .char o) {t0 : Int32} {I : Nat → Int32} {A : Nat → Nat → Int32} {H : Heap} {locs : List Loc} {ls : Array Slot} (hf : f_look_24 t0 I A = some o) (hM : mH D cy ci h A0 s H locs I A) (hl : lv_has ls 1 []) : W p l e ({ frames := 0, cells := 0, slots := 0, locals := 0 } : Room) s m args below meth c H locs 0 0 Q (F0 m 24 ls [.int t0]) := by
  obtain ⟨hx, hb, hml, hown, hts⟩ := id X
  unfold f_look_24 at hf
  obtain ⟨cd, hf⟩ := m_chkE hf
  cases hf
  exact hret H locs _ ls hM (m_nc cd) dX12_look_24
noncomputable def f_look_0 (I : Nat → Int32) (A : Nat → Nat → Int32) : Option (Int32 × MS) :=
  m_if ((I 1) ≤ (I 37)) (
  f_look_24 (0 : Int32) I A
  ) (
  m_chk (¬ ((I 37) < 0 ∨ 2000 ≤ ((I 37)).toNatClampNeg)) (
  m_bnd (A 2 ((I 37)).toNatClampNeg) (fun v1 =>
  f_look_24 v1 I A))
  )

set_option maxRecDepth 100000 in
set_option maxHeartbeats 4000000 in
theorem w_look_0 {p : Program} {l : Launch} {e : Env} {s : State} {m : MethodId} {args : Array Value} {below : List Frame} {meth : Method} {c : Code} {Q : State → Prop} {D : va_G} {cy ci : ClassId} {h : Nat → Nat} {A0 : Nat → Prop} {o : Int32 × MS} (X : CallFix p m c cX12_look 1 s args wsX12_look RX12) (hret : mRi p l e ({ frames := 0, cells := 0, slots := 0, locals := 0 } : Room) s m args below meth c Q cX12_look D cy ci h A0 .char o) {I : Nat → Int32} {A : Nat → Nat → Int32} {H : Heap} {locs : List Loc} {ls : Array Slot} (hf : f_look_0  I A = some o) (hM : mH D cy ci h A0 s H locs I A) (hl : lv_has ls 1 [(0, .ref (h 0))]) : W p l e ({ frames := 0, cells := 0, slots := 0, locals := 0 } : Room) s m args below meth c H locs 0 0 Q (F0 m 0 ls []) := by
  obtain ⟨hx, hb, hml, hown, hts⟩ := id X
  unfold f_look_0 at hf
  refine lv_aload_n hx hb dX12_look_0 rfl (lv_at hl 0 rfl) ?_
  refine m_get (v := .int (I 37)) X hw_look hM 37 (by decide) fl_look_37 rfl dX12_look_1 ?_
  refine lv_aload_n hx hb dX12_look_4 rfl (lv_at hl 0 rfl) ?_
  refine m_get (v := .int (I 1)) X hw_look hM 1 (by decide) fl_look_1 rfl dX12_look_5 ?_
  refine lv_icmp_ge (tgt := 23) hx hb dX12_look_8 (by decide) (fun cc1 => ?_) (fun cc1 => ?_)
  · replace hf := m_ifT hf cc1
    refine lv_iconst (v := (0 : Int32)) hx hb dX12_look_23 (by decide) ?_
    exact w_look_24 X hret hf hM (lv_sub hl [] rfl)
  · replace hf := m_ifF hf cc1
    refine lv_aload_n hx hb dX12_look_11 rfl (lv_at hl 0 rfl) ?_
    refine m_get (v := .ref (h 2)) X hw_look hM 2 (by decide) fl_look_2 rfl dX12_look_12 ?_
    refine lv_aload_n hx hb dX12_look_15 rfl (lv_at hl 0 rfl) ?_
    refine m_get (v := .int (I 37)) X hw_look hM 37 (by decide) fl_look_37 rfl dX12_look_16 ?_
    obtain ⟨cd, hf⟩ := m_chkE hf
    refine m_cald X hM 2 1 2000 rfl cd dX12_look_19 ?_
    clear cd
    obtain ⟨v1, ev, hf⟩ := m_bndE hf
    refine m_top ev ?_
    clear ev
    refine lv_goto (tgt := 24) hx hb dX12_look_20 (by decide) ?_
    exact w_look_24 X hret hf hM (lv_sub hl [] rfl)
noncomputable def f_look (I : Nat → Int32) (A : Nat → Nat → Int32) : Option (Int32 × MS) := f_look_0  I A
theorem c_look {l : Launch} {D : va_G} {cy ci : ClassId} {h : Nat → Nat} {I : Nat → Int32} {A : Nat → Nat → Int32} {o : Int32 × MS} (hf : f_look  I A = some o) : mMi l yX12_look wsX12_look ({ frames := 0, cells := 0, slots := 0, locals := 0 } : Room) [.ref (h 0)] D cy ci h I A o :=
  m_entryI (cc := cX12_look) (maxL := 1) (by decide) rfl rfl (Nat.le_of_ble_eq_true rfl) (fun p e s m args below meth c A0 Q H locs ls X hret hM hl => w_look_0 X hret hf hM (lv_sub hl [0] rfl))
theorem hw_blanks : ∀ w ∈ wsX120, w ∈ wsX12_blanks := by decide +kernel
theorem fl_blanks_1 : Cond.fieldLink RX12 270 "MoveTextsModel" "typed" "I" ∈ wsX12_blanks := by decide +kernel
theorem fl_blanks_2 : Cond.fieldLink RX12 7 "MoveTextsModel" "text" "[C" ∈ wsX12_blanks := by decide +kernel
theorem fl_blanks_37 : Cond.fieldLink RX12 267 "MoveTextsModel" "at" "I" ∈ wsX12_blanks := by decide +kernel
theorem hd_blanks : yX12_blanks.cls = RX12 ∧ yX12_blanks.cls ≠ "java/lang/invoke/MethodHandle" ∧ yX12_blanks.cls ≠ "java/lang/invoke/VarHandle" ∧ (parseMethodDescriptor yX12_blanks.desc).map (fun d => d.parameters.length) = some 0 := by decide +kernel
noncomputable def f_blanks_52 (I : Nat → Int32) (A : Nat → Nat → Int32) : Option (Int32 × MS) :=
  some (0, (I, A))

set_option maxRecDepth 100000 in
set_option maxHeartbeats 4000000 in
theorem w_blanks_52 {p : Program} {l : Launch} {e : Env} {s : State} {m : MethodId} {args : Array Value} {below : List Frame} {meth : Method} {c : Code} {Q : State → Prop} {D : va_G} {cy ci : ClassId} {h : Nat → Nat} {A0 : Nat → Prop} {o : Int32 × MS} (X : CallFix p m c cX12_blanks 1 s args wsX12_blanks RX12) (hret : mRv p l e ({ frames := 0, cells := 0, slots := 0, locals := 0 } : Room) s m args below meth c Q cX12_blanks D cy ci h A0 o) {I : Nat → Int32} {A : Nat → Nat → Int32} {H : Heap} {locs : List Loc} {ls : Array Slot} (hf : f_blanks_52  I A = some o) (hM : mH D cy ci h A0 s H locs I A) (hl : lv_has ls 1 []) : W p l e ({ frames := 0, cells := 0, slots := 0, locals := 0 } : Room) s m args below meth c H locs 0 0 Q (F0 m 52 ls []) := by
  obtain ⟨hx, hb, hml, hown, hts⟩ := id X
  unfold f_blanks_52 at hf
  cases hf
  exact hret H locs _ ls hM dX12_blanks_52
noncomputable def f_blanks_39 (self0 : (Nat → Int32) → (Nat → Nat → Int32) → Option (Int32 × MS)) (I : Nat → Int32) (A : Nat → Nat → Int32) : Option (Int32 × MS) :=
  m_bnd ((I 37) + (1 : Int32)) (fun v1 =>
  m_bnd (upd I 37 v1) (fun I2 =>
  self0  I2 A))

set_option maxRecDepth 100000 in
set_option maxHeartbeats 4000000 in
theorem w_blanks_39 {p : Program} {l : Launch} {e : Env} {s : State} {m : MethodId} {args : Array Value} {below : List Frame} {meth : Method} {c : Code} {Q : State → Prop} {D : va_G} {cy ci : ClassId} {h : Nat → Nat} {A0 : Nat → Prop} {o : Int32 × MS} (X : CallFix p m c cX12_blanks 1 s args wsX12_blanks RX12) (hret : mRv p l e ({ frames := 0, cells := 0, slots := 0, locals := 0 } : Room) s m args below meth c Q cX12_blanks D cy ci h A0 o) {self0 : (Nat → Int32) → (Nat → Nat → Int32) → Option (Int32 × MS)} (hself0 : ∀ (I : Nat → Int32) (A : Nat → Nat → Int32) (H : Heap) (locs : List Loc) (ls : Array Slot), self0  I A = some o → mH D cy ci h A0 s H locs I A → lv_has ls 1 [(0, .ref (h 0))] → W p l e ({ frames := 0, cells := 0, slots := 0, locals := 0 } : Room) s m args below meth c H locs 0 0 Q (F0 m 0 ls [])) {I : Nat → Int32} {A : Nat → Nat → Int32} {H : Heap} {locs : List Loc} {ls : Array Slot} (hf : f_blanks_39 self0  I A = some o) (hM : mH D cy ci h A0 s H locs I A) (hl : lv_has ls 1 [(0, .ref (h 0))]) : W p l e ({ frames := 0, cells := 0, slots := 0, locals := 0 } : Room) s m args below meth c H locs 0 0 Q (F0 m 39 ls []) := by
  obtain ⟨hx, hb, hml, hown, hts⟩ := id X
  unfold f_blanks_39 at hf
  refine lv_aload_n hx hb dX12_blanks_39 rfl (lv_at hl 0 rfl) ?_
  refine lv_dup hx hb dX12_blanks_40 rfl ?_
  refine m_get (v := .int (I 37)) X hw_blanks hM 37 (by decide) fl_blanks_37 rfl dX12_blanks_41 ?_
  refine lv_iconst (v := (1 : Int32)) hx hb dX12_blanks_44 (by decide) ?_
  refine lv_iadd hx hb dX12_blanks_45 ?_
  obtain ⟨v1, ev, hf⟩ := m_bndE hf
  refine m_top ev ?_
  clear ev
  refine m_put X hw_blanks hM 37 (by decide) fl_blanks_37 mi_37 rfl (tyX12_ok 37 (by decide)) dX12_blanks_46 (fun H locs hM => ?_)
  obtain ⟨I2, ev, hf⟩ := m_bndE hf
  replace hM := m_hI hM ev
  clear ev
  refine lv_goto (tgt := 0) hx hb dX12_blanks_49 (by decide) ?_
  exact hself0  _ _ _ _ _ hf hM (lv_sub hl [0] rfl)
noncomputable def f_blanks_0s (self0 : (Nat → Int32) → (Nat → Nat → Int32) → Option (Int32 × MS)) (I : Nat → Int32) (A : Nat → Nat → Int32) : Option (Int32 × MS) :=
  m_if ((I 1) ≤ (I 37)) (
  f_blanks_52  I A
  ) (
  m_chk (¬ ((I 37) < 0 ∨ 2000 ≤ ((I 37)).toNatClampNeg)) (
  m_bnd (A 2 ((I 37)).toNatClampNeg) (fun v1 =>
  m_if (v1 = (32 : Int32)) (
  f_blanks_39 self0  I A
  ) (
  m_chk (¬ ((I 37) < 0 ∨ 2000 ≤ ((I 37)).toNatClampNeg)) (
  m_bnd (A 2 ((I 37)).toNatClampNeg) (fun v2 =>
  m_if (v2 = (10 : Int32)) (
  f_blanks_39 self0  I A
  ) (
  f_blanks_52  I A
  )))
  )))
  )

set_option maxRecDepth 100000 in
set_option maxHeartbeats 4000000 in
theorem ws_blanks_0 {p : Program} {l : Launch} {e : Env} {s : State} {m : MethodId} {args : Array Value} {below : List Frame} {meth : Method} {c : Code} {Q : State → Prop} {D : va_G} {cy ci : ClassId} {h : Nat → Nat} {A0 : Nat → Prop} {o : Int32 × MS} (X : CallFix p m c cX12_blanks 1 s args wsX12_blanks RX12) (hret : mRv p l e ({ frames := 0, cells := 0, slots := 0, locals := 0 } : Room) s m args below meth c Q cX12_blanks D cy ci h A0 o) {self0 : (Nat → Int32) → (Nat → Nat → Int32) → Option (Int32 × MS)} (hself0 : ∀ (I : Nat → Int32) (A : Nat → Nat → Int32) (H : Heap) (locs : List Loc) (ls : Array Slot), self0  I A = some o → mH D cy ci h A0 s H locs I A → lv_has ls 1 [(0, .ref (h 0))] → W p l e ({ frames := 0, cells := 0, slots := 0, locals := 0 } : Room) s m args below meth c H locs 0 0 Q (F0 m 0 ls [])) {I : Nat → Int32} {A : Nat → Nat → Int32} {H : Heap} {locs : List Loc} {ls : Array Slot} (hf : f_blanks_0s self0  I A = some o) (hM : mH D cy ci h A0 s H locs I A) (hl : lv_has ls 1 [(0, .ref (h 0))]) : W p l e ({ frames := 0, cells := 0, slots := 0, locals := 0 } : Room) s m args below meth c H locs 0 0 Q (F0 m 0 ls []) := by
  obtain ⟨hx, hb, hml, hown, hts⟩ := id X
  unfold f_blanks_0s at hf
  refine lv_aload_n hx hb dX12_blanks_0 rfl (lv_at hl 0 rfl) ?_
  refine m_get (v := .int (I 37)) X hw_blanks hM 37 (by decide) fl_blanks_37 rfl dX12_blanks_1 ?_
  refine lv_aload_n hx hb dX12_blanks_4 rfl (lv_at hl 0 rfl) ?_
  refine m_get (v := .int (I 1)) X hw_blanks hM 1 (by decide) fl_blanks_1 rfl dX12_blanks_5 ?_
  refine lv_icmp_ge (tgt := 52) hx hb dX12_blanks_8 (by decide) (fun cc1 => ?_) (fun cc1 => ?_)
  · replace hf := m_ifT hf cc1
    exact w_blanks_52 X hret hf hM (lv_sub hl [] rfl)
  · replace hf := m_ifF hf cc1
    refine lv_aload_n hx hb dX12_blanks_11 rfl (lv_at hl 0 rfl) ?_
    refine m_get (v := .ref (h 2)) X hw_blanks hM 2 (by decide) fl_blanks_2 rfl dX12_blanks_12 ?_
    refine lv_aload_n hx hb dX12_blanks_15 rfl (lv_at hl 0 rfl) ?_
    refine m_get (v := .int (I 37)) X hw_blanks hM 37 (by decide) fl_blanks_37 rfl dX12_blanks_16 ?_
    obtain ⟨cd, hf⟩ := m_chkE hf
    refine m_cald X hM 2 1 2000 rfl cd dX12_blanks_19 ?_
    clear cd
    obtain ⟨v1, ev, hf⟩ := m_bndE hf
    refine m_top ev ?_
    clear ev
    refine lv_bipush (v := (32 : Int32)) hx hb dX12_blanks_20 (by decide) ?_
    refine lv_icmp_eq (tgt := 39) hx hb dX12_blanks_22 (by decide) (fun cc1 => ?_) (fun cc1 => ?_)
    · replace hf := m_ifT hf cc1
      exact w_blanks_39 X hret hself0 hf hM (lv_sub hl [0] rfl)
    · replace hf := m_ifF hf cc1
      refine lv_aload_n hx hb dX12_blanks_25 rfl (lv_at hl 0 rfl) ?_
      refine m_get (v := .ref (h 2)) X hw_blanks hM 2 (by decide) fl_blanks_2 rfl dX12_blanks_26 ?_
      refine lv_aload_n hx hb dX12_blanks_29 rfl (lv_at hl 0 rfl) ?_
      refine m_get (v := .int (I 37)) X hw_blanks hM 37 (by decide) fl_blanks_37 rfl dX12_blanks_30 ?_
      obtain ⟨cd, hf⟩ := m_chkE hf
      refine m_cald X hM 2 1 2000 rfl cd dX12_blanks_33 ?_
      clear cd
      obtain ⟨v2, ev, hf⟩ := m_bndE hf
      refine m_top ev ?_
      clear ev
      refine lv_bipush (v := (10 : Int32)) hx hb dX12_blanks_34 (by decide) ?_
      refine lv_icmp_ne (tgt := 52) hx hb dX12_blanks_36 (by decide) (fun cc1 => ?_) (fun cc1 => ?_)
      · replace hf := m_ifF hf cc1
        exact w_blanks_52 X hret hf hM (lv_sub hl [] rfl)
      · replace hf := m_ifT hf cc1
        exact w_blanks_39 X hret hself0 hf hM (lv_sub hl [0] rfl)
noncomputable def f_blanks_0 : Nat → (Nat → Int32) → (Nat → Nat → Int32) → Option (Int32 × MS)
  | 0 => fun  _ _ => none
  | n + 1 => f_blanks_0s (f_blanks_0 n)
theorem w_blanks_0 {p : Program} {l : Launch} {e : Env} {s : State} {m : MethodId} {args : Array Value} {below : List Frame} {meth : Method} {c : Code} {Q : State → Prop} {D : va_G} {cy ci : ClassId} {h : Nat → Nat} {A0 : Nat → Prop} {o : Int32 × MS} (X : CallFix p m c cX12_blanks 1 s args wsX12_blanks RX12) (hret : mRv p l e ({ frames := 0, cells := 0, slots := 0, locals := 0 } : Room) s m args below meth c Q cX12_blanks D cy ci h A0 o) (n : Nat) : ∀ (I : Nat → Int32) (A : Nat → Nat → Int32) (H : Heap) (locs : List Loc) (ls : Array Slot), f_blanks_0 n  I A = some o → mH D cy ci h A0 s H locs I A → lv_has ls 1 [(0, .ref (h 0))] → W p l e ({ frames := 0, cells := 0, slots := 0, locals := 0 } : Room) s m args below meth c H locs 0 0 Q (F0 m 0 ls []) := by
  induction n with
  | zero => intro  I A H locs ls hf; cases hf
  | succ n ih => intro  I A H locs ls hf hM hl; exact ws_blanks_0 X hret (self0 := f_blanks_0 n) ih hf hM hl
noncomputable def f_blanks (I : Nat → Int32) (A : Nat → Nat → Int32) : Option (Int32 × MS) := f_blanks_0 mFuel  I A
theorem c_blanks {l : Launch} {D : va_G} {cy ci : ClassId} {h : Nat → Nat} {I : Nat → Int32} {A : Nat → Nat → Int32} {o : Int32 × MS} (hf : f_blanks  I A = some o) : mMv l yX12_blanks wsX12_blanks ({ frames := 0, cells := 0, slots := 0, locals := 0 } : Room) [.ref (h 0)] D cy ci h I A o :=
  m_entryV (cc := cX12_blanks) (maxL := 1) (by decide) rfl rfl (Nat.le_of_ble_eq_true rfl) (fun p e s m args below meth c A0 Q H locs ls X hret hM hl => w_blanks_0 X hret mFuel I A H locs ls hf hM (lv_sub hl [0] rfl))
theorem hd_fault : yX12_fault.cls ≠ "java/lang/invoke/MethodHandle" ∧ yX12_fault.cls ≠ "java/lang/invoke/VarHandle" ∧ (parseMethodDescriptor yX12_fault.desc).map (fun d => d.parameters.length) = some 2 := by decide +kernel
noncomputable def f_fault_0 (x0 : Int32) (x1 : Int32) (I : Nat → Int32) (A : Nat → Nat → Int32) : Option (Int32 × MS) :=
  m_bnd ((10000 : Int32) * x0) (fun v1 =>
  m_bnd (v1 + x1) (fun v2 =>
  some (v2, (I, A))))

set_option maxRecDepth 100000 in
set_option maxHeartbeats 4000000 in
theorem w_fault_0 {p : Program} {l : Launch} {e : Env} {s : State} {m : MethodId} {args : Array Value} {below : List Frame} {meth : Method} {c : Code} {Q : State → Prop} {D : va_G} {cy ci : ClassId} {h : Nat → Nat} {A0 : Nat → Prop} {o : Int32 × MS} (X : CallFix p m c cX12_fault 2 s args wsX12_fault RX12) (hret : mRi p l e ({ frames := 0, cells := 0, slots := 0, locals := 0 } : Room) s m args below meth c Q cX12_fault D cy ci h A0 .int o) {x0 : Int32} {x1 : Int32} {I : Nat → Int32} {A : Nat → Nat → Int32} {H : Heap} {locs : List Loc} {ls : Array Slot} (hf : f_fault_0 x0 x1 I A = some o) (hM : mH D cy ci h A0 s H locs I A) (hl : lv_has ls 2 [(0, .int x0), (1, .int x1)]) : W p l e ({ frames := 0, cells := 0, slots := 0, locals := 0 } : Room) s m args below meth c H locs 0 0 Q (F0 m 0 ls []) := by
  obtain ⟨hx, hb, hml, hown, hts⟩ := id X
  unfold f_fault_0 at hf
  refine lv_sipush (v := (10000 : Int32)) hx hb dX12_fault_0 (by decide) ?_
  refine lv_iload_n hx hb dX12_fault_3 rfl (lv_at hl 0 rfl) ?_
  refine lv_imul hx hb dX12_fault_4 ?_
  obtain ⟨v1, ev, hf⟩ := m_bndE hf
  refine m_top ev ?_
  clear ev
  refine lv_iload_n hx hb dX12_fault_5 rfl (lv_at hl 1 rfl) ?_
  refine lv_iadd hx hb dX12_fault_6 ?_
  obtain ⟨v2, ev, hf⟩ := m_bndE hf
  refine m_top ev ?_
  clear ev
  cases hf
  exact hret H locs _ ls hM rfl dX12_fault_7
noncomputable def f_fault (x0 : Int32) (x1 : Int32) (I : Nat → Int32) (A : Nat → Nat → Int32) : Option (Int32 × MS) := f_fault_0 x0 x1 I A
theorem c_fault {l : Launch} {D : va_G} {cy ci : ClassId} {h : Nat → Nat} {x0 : Int32} {x1 : Int32} {I : Nat → Int32} {A : Nat → Nat → Int32} {o : Int32 × MS} (hf : f_fault x0 x1 I A = some o) : mMi l yX12_fault wsX12_fault ({ frames := 0, cells := 0, slots := 0, locals := 0 } : Room) [.int x0, .int x1] D cy ci h I A o :=
  m_entryI (cc := cX12_fault) (maxL := 2) (by decide) rfl rfl (Nat.le_of_ble_eq_true rfl) (fun p e s m args below meth c A0 Q H locs ls X hret hM hl => w_fault_0 X hret hf hM (lv_sub hl [0, 1] rfl))
theorem hd_isLetter : yX12_isLetter.cls ≠ "java/lang/invoke/MethodHandle" ∧ yX12_isLetter.cls ≠ "java/lang/invoke/VarHandle" ∧ (parseMethodDescriptor yX12_isLetter.desc).map (fun d => d.parameters.length) = some 1 := by decide +kernel
noncomputable def f_isLetter_29 (t0 : Int32) (I : Nat → Int32) (A : Nat → Nat → Int32) : Option (Int32 × MS) :=
  m_chk (vp_nar .boolean t0 = t0) (some (t0, (I, A)))

set_option maxRecDepth 100000 in
set_option maxHeartbeats 4000000 in
theorem w_isLetter_29 {p : Program} {l : Launch} {e : Env} {s : State} {m : MethodId} {args : Array Value} {below : List Frame} {meth : Method} {c : Code} {Q : State → Prop} {D : va_G} {cy ci : ClassId} {h : Nat → Nat} {A0 : Nat → Prop} {o : Int32 × MS} (X : CallFix p m c cX12_isLetter 1 s args wsX12_isLetter RX12) (hret : mRi p l e ({ frames := 0, cells := 0, slots := 0, locals := 0 } : Room) s m args below meth c Q cX12_isLetter D cy ci h A0 .boolean o) {t0 : Int32} {I : Nat → Int32} {A : Nat → Nat → Int32} {H : Heap} {locs : List Loc} {ls : Array Slot} (hf : f_isLetter_29 t0 I A = some o) (hM : mH D cy ci h A0 s H locs I A) (hl : lv_has ls 1 []) : W p l e ({ frames := 0, cells := 0, slots := 0, locals := 0 } : Room) s m args below meth c H locs 0 0 Q (F0 m 29 ls [.int t0]) := by
  obtain ⟨hx, hb, hml, hown, hts⟩ := id X
  unfold f_isLetter_29 at hf
  obtain ⟨cd, hf⟩ := m_chkE hf
  cases hf
  exact hret H locs _ ls hM (m_nb cd) dX12_isLetter_29
noncomputable def f_isLetter_28 (I : Nat → Int32) (A : Nat → Nat → Int32) : Option (Int32 × MS) :=
  f_isLetter_29 (0 : Int32) I A

set_option maxRecDepth 100000 in
set_option maxHeartbeats 4000000 in
theorem w_isLetter_28 {p : Program} {l : Launch} {e : Env} {s : State} {m : MethodId} {args : Array Value} {below : List Frame} {meth : Method} {c : Code} {Q : State → Prop} {D : va_G} {cy ci : ClassId} {h : Nat → Nat} {A0 : Nat → Prop} {o : Int32 × MS} (X : CallFix p m c cX12_isLetter 1 s args wsX12_isLetter RX12) (hret : mRi p l e ({ frames := 0, cells := 0, slots := 0, locals := 0 } : Room) s m args below meth c Q cX12_isLetter D cy ci h A0 .boolean o) {I : Nat → Int32} {A : Nat → Nat → Int32} {H : Heap} {locs : List Loc} {ls : Array Slot} (hf : f_isLetter_28  I A = some o) (hM : mH D cy ci h A0 s H locs I A) (hl : lv_has ls 1 []) : W p l e ({ frames := 0, cells := 0, slots := 0, locals := 0 } : Room) s m args below meth c H locs 0 0 Q (F0 m 28 ls []) := by
  obtain ⟨hx, hb, hml, hown, hts⟩ := id X
  unfold f_isLetter_28 at hf
  refine lv_iconst (v := (0 : Int32)) hx hb dX12_isLetter_28 (by decide) ?_
  exact w_isLetter_29 X hret hf hM (lv_sub hl [] rfl)
noncomputable def f_isLetter_24 (I : Nat → Int32) (A : Nat → Nat → Int32) : Option (Int32 × MS) :=
  f_isLetter_29 (1 : Int32) I A

set_option maxRecDepth 100000 in
set_option maxHeartbeats 4000000 in
theorem w_isLetter_24 {p : Program} {l : Launch} {e : Env} {s : State} {m : MethodId} {args : Array Value} {below : List Frame} {meth : Method} {c : Code} {Q : State → Prop} {D : va_G} {cy ci : ClassId} {h : Nat → Nat} {A0 : Nat → Prop} {o : Int32 × MS} (X : CallFix p m c cX12_isLetter 1 s args wsX12_isLetter RX12) (hret : mRi p l e ({ frames := 0, cells := 0, slots := 0, locals := 0 } : Room) s m args below meth c Q cX12_isLetter D cy ci h A0 .boolean o) {I : Nat → Int32} {A : Nat → Nat → Int32} {H : Heap} {locs : List Loc} {ls : Array Slot} (hf : f_isLetter_24  I A = some o) (hM : mH D cy ci h A0 s H locs I A) (hl : lv_has ls 1 []) : W p l e ({ frames := 0, cells := 0, slots := 0, locals := 0 } : Room) s m args below meth c H locs 0 0 Q (F0 m 24 ls []) := by
  obtain ⟨hx, hb, hml, hown, hts⟩ := id X
  unfold f_isLetter_24 at hf
  refine lv_iconst (v := (1 : Int32)) hx hb dX12_isLetter_24 (by decide) ?_
  refine lv_goto (tgt := 29) hx hb dX12_isLetter_25 (by decide) ?_
  exact w_isLetter_29 X hret hf hM (lv_sub hl [] rfl)
noncomputable def f_isLetter_12 (x0 : Int32) (I : Nat → Int32) (A : Nat → Nat → Int32) : Option (Int32 × MS) :=
  m_if (x0 < (65 : Int32)) (
  f_isLetter_28  I A
  ) (
  m_if ((90 : Int32) < x0) (
  f_isLetter_28  I A
  ) (
  f_isLetter_24  I A
  )
  )

set_option maxRecDepth 100000 in
set_option maxHeartbeats 4000000 in
theorem w_isLetter_12 {p : Program} {l : Launch} {e : Env} {s : State} {m : MethodId} {args : Array Value} {below : List Frame} {meth : Method} {c : Code} {Q : State → Prop} {D : va_G} {cy ci : ClassId} {h : Nat → Nat} {A0 : Nat → Prop} {o : Int32 × MS} (X : CallFix p m c cX12_isLetter 1 s args wsX12_isLetter RX12) (hret : mRi p l e ({ frames := 0, cells := 0, slots := 0, locals := 0 } : Room) s m args below meth c Q cX12_isLetter D cy ci h A0 .boolean o) {x0 : Int32} {I : Nat → Int32} {A : Nat → Nat → Int32} {H : Heap} {locs : List Loc} {ls : Array Slot} (hf : f_isLetter_12 x0 I A = some o) (hM : mH D cy ci h A0 s H locs I A) (hl : lv_has ls 1 [(0, .int x0)]) : W p l e ({ frames := 0, cells := 0, slots := 0, locals := 0 } : Room) s m args below meth c H locs 0 0 Q (F0 m 12 ls []) := by
  obtain ⟨hx, hb, hml, hown, hts⟩ := id X
  unfold f_isLetter_12 at hf
  refine lv_iload_n hx hb dX12_isLetter_12 rfl (lv_at hl 0 rfl) ?_
  refine lv_bipush (v := (65 : Int32)) hx hb dX12_isLetter_13 (by decide) ?_
  refine lv_icmp_lt (tgt := 28) hx hb dX12_isLetter_15 (by decide) (fun cc1 => ?_) (fun cc1 => ?_)
  · replace hf := m_ifT hf cc1
    exact w_isLetter_28 X hret hf hM (lv_sub hl [] rfl)
  · replace hf := m_ifF hf cc1
    refine lv_iload_n hx hb dX12_isLetter_18 rfl (lv_at hl 0 rfl) ?_
    refine lv_bipush (v := (90 : Int32)) hx hb dX12_isLetter_19 (by decide) ?_
    refine lv_icmp_gt (tgt := 28) hx hb dX12_isLetter_21 (by decide) (fun cc1 => ?_) (fun cc1 => ?_)
    · replace hf := m_ifT hf cc1
      exact w_isLetter_28 X hret hf hM (lv_sub hl [] rfl)
    · replace hf := m_ifF hf cc1
      exact w_isLetter_24 X hret hf hM (lv_sub hl [] rfl)
noncomputable def f_isLetter_0 (x0 : Int32) (I : Nat → Int32) (A : Nat → Nat → Int32) : Option (Int32 × MS) :=
  m_if (x0 < (97 : Int32)) (
  f_isLetter_12 x0 I A
  ) (
  m_if (x0 ≤ (122 : Int32)) (
  f_isLetter_24  I A
  ) (
  f_isLetter_12 x0 I A
  )
  )

set_option maxRecDepth 100000 in
set_option maxHeartbeats 4000000 in
theorem w_isLetter_0 {p : Program} {l : Launch} {e : Env} {s : State} {m : MethodId} {args : Array Value} {below : List Frame} {meth : Method} {c : Code} {Q : State → Prop} {D : va_G} {cy ci : ClassId} {h : Nat → Nat} {A0 : Nat → Prop} {o : Int32 × MS} (X : CallFix p m c cX12_isLetter 1 s args wsX12_isLetter RX12) (hret : mRi p l e ({ frames := 0, cells := 0, slots := 0, locals := 0 } : Room) s m args below meth c Q cX12_isLetter D cy ci h A0 .boolean o) {x0 : Int32} {I : Nat → Int32} {A : Nat → Nat → Int32} {H : Heap} {locs : List Loc} {ls : Array Slot} (hf : f_isLetter_0 x0 I A = some o) (hM : mH D cy ci h A0 s H locs I A) (hl : lv_has ls 1 [(0, .int x0)]) : W p l e ({ frames := 0, cells := 0, slots := 0, locals := 0 } : Room) s m args below meth c H locs 0 0 Q (F0 m 0 ls []) := by
  obtain ⟨hx, hb, hml, hown, hts⟩ := id X
  unfold f_isLetter_0 at hf
  refine lv_iload_n hx hb dX12_isLetter_0 rfl (lv_at hl 0 rfl) ?_
  refine lv_bipush (v := (97 : Int32)) hx hb dX12_isLetter_1 (by decide) ?_
  refine lv_icmp_lt (tgt := 12) hx hb dX12_isLetter_3 (by decide) (fun cc1 => ?_) (fun cc1 => ?_)
  · replace hf := m_ifT hf cc1
    exact w_isLetter_12 X hret hf hM (lv_sub hl [0] rfl)
  · replace hf := m_ifF hf cc1
    refine lv_iload_n hx hb dX12_isLetter_6 rfl (lv_at hl 0 rfl) ?_
    refine lv_bipush (v := (122 : Int32)) hx hb dX12_isLetter_7 (by decide) ?_
    refine lv_icmp_le (tgt := 24) hx hb dX12_isLetter_9 (by decide) (fun cc1 => ?_) (fun cc1 => ?_)
    · replace hf := m_ifT hf cc1
      exact w_isLetter_24 X hret hf hM (lv_sub hl [] rfl)
    · replace hf := m_ifF hf cc1
      exact w_isLetter_12 X hret hf hM (lv_sub hl [0] rfl)
noncomputable def f_isLetter (x0 : Int32) (I : Nat → Int32) (A : Nat → Nat → Int32) : Option (Int32 × MS) := f_isLetter_0 x0 I A
theorem c_isLetter {l : Launch} {D : va_G} {cy ci : ClassId} {h : Nat → Nat} {x0 : Int32} {I : Nat → Int32} {A : Nat → Nat → Int32} {o : Int32 × MS} (hf : f_isLetter x0 I A = some o) : mMi l yX12_isLetter wsX12_isLetter ({ frames := 0, cells := 0, slots := 0, locals := 0 } : Room) [.int x0] D cy ci h I A o :=
  m_entryI (cc := cX12_isLetter) (maxL := 1) (by decide) rfl rfl (Nat.le_of_ble_eq_true rfl) (fun p e s m args below meth c A0 Q H locs ls X hret hM hl => w_isLetter_0 X hret hf hM (lv_sub hl [0] rfl))
theorem hd_isDigit : yX12_isDigit.cls ≠ "java/lang/invoke/MethodHandle" ∧ yX12_isDigit.cls ≠ "java/lang/invoke/VarHandle" ∧ (parseMethodDescriptor yX12_isDigit.desc).map (fun d => d.parameters.length) = some 1 := by decide +kernel
noncomputable def f_isDigit_17 (t0 : Int32) (I : Nat → Int32) (A : Nat → Nat → Int32) : Option (Int32 × MS) :=
  m_chk (vp_nar .boolean t0 = t0) (some (t0, (I, A)))

set_option maxRecDepth 100000 in
set_option maxHeartbeats 4000000 in
theorem w_isDigit_17 {p : Program} {l : Launch} {e : Env} {s : State} {m : MethodId} {args : Array Value} {below : List Frame} {meth : Method} {c : Code} {Q : State → Prop} {D : va_G} {cy ci : ClassId} {h : Nat → Nat} {A0 : Nat → Prop} {o : Int32 × MS} (X : CallFix p m c cX12_isDigit 1 s args wsX12_isDigit RX12) (hret : mRi p l e ({ frames := 0, cells := 0, slots := 0, locals := 0 } : Room) s m args below meth c Q cX12_isDigit D cy ci h A0 .boolean o) {t0 : Int32} {I : Nat → Int32} {A : Nat → Nat → Int32} {H : Heap} {locs : List Loc} {ls : Array Slot} (hf : f_isDigit_17 t0 I A = some o) (hM : mH D cy ci h A0 s H locs I A) (hl : lv_has ls 1 []) : W p l e ({ frames := 0, cells := 0, slots := 0, locals := 0 } : Room) s m args below meth c H locs 0 0 Q (F0 m 17 ls [.int t0]) := by
  obtain ⟨hx, hb, hml, hown, hts⟩ := id X
  unfold f_isDigit_17 at hf
  obtain ⟨cd, hf⟩ := m_chkE hf
  cases hf
  exact hret H locs _ ls hM (m_nb cd) dX12_isDigit_17
noncomputable def f_isDigit_16 (I : Nat → Int32) (A : Nat → Nat → Int32) : Option (Int32 × MS) :=
  f_isDigit_17 (0 : Int32) I A

set_option maxRecDepth 100000 in
set_option maxHeartbeats 4000000 in
theorem w_isDigit_16 {p : Program} {l : Launch} {e : Env} {s : State} {m : MethodId} {args : Array Value} {below : List Frame} {meth : Method} {c : Code} {Q : State → Prop} {D : va_G} {cy ci : ClassId} {h : Nat → Nat} {A0 : Nat → Prop} {o : Int32 × MS} (X : CallFix p m c cX12_isDigit 1 s args wsX12_isDigit RX12) (hret : mRi p l e ({ frames := 0, cells := 0, slots := 0, locals := 0 } : Room) s m args below meth c Q cX12_isDigit D cy ci h A0 .boolean o) {I : Nat → Int32} {A : Nat → Nat → Int32} {H : Heap} {locs : List Loc} {ls : Array Slot} (hf : f_isDigit_16  I A = some o) (hM : mH D cy ci h A0 s H locs I A) (hl : lv_has ls 1 []) : W p l e ({ frames := 0, cells := 0, slots := 0, locals := 0 } : Room) s m args below meth c H locs 0 0 Q (F0 m 16 ls []) := by
  obtain ⟨hx, hb, hml, hown, hts⟩ := id X
  unfold f_isDigit_16 at hf
  refine lv_iconst (v := (0 : Int32)) hx hb dX12_isDigit_16 (by decide) ?_
  exact w_isDigit_17 X hret hf hM (lv_sub hl [] rfl)
noncomputable def f_isDigit_0 (x0 : Int32) (I : Nat → Int32) (A : Nat → Nat → Int32) : Option (Int32 × MS) :=
  m_if (x0 < (48 : Int32)) (
  f_isDigit_16  I A
  ) (
  m_if ((57 : Int32) < x0) (
  f_isDigit_16  I A
  ) (
  f_isDigit_17 (1 : Int32) I A
  )
  )

set_option maxRecDepth 100000 in
set_option maxHeartbeats 4000000 in
theorem w_isDigit_0 {p : Program} {l : Launch} {e : Env} {s : State} {m : MethodId} {args : Array Value} {below : List Frame} {meth : Method} {c : Code} {Q : State → Prop} {D : va_G} {cy ci : ClassId} {h : Nat → Nat} {A0 : Nat → Prop} {o : Int32 × MS} (X : CallFix p m c cX12_isDigit 1 s args wsX12_isDigit RX12) (hret : mRi p l e ({ frames := 0, cells := 0, slots := 0, locals := 0 } : Room) s m args below meth c Q cX12_isDigit D cy ci h A0 .boolean o) {x0 : Int32} {I : Nat → Int32} {A : Nat → Nat → Int32} {H : Heap} {locs : List Loc} {ls : Array Slot} (hf : f_isDigit_0 x0 I A = some o) (hM : mH D cy ci h A0 s H locs I A) (hl : lv_has ls 1 [(0, .int x0)]) : W p l e ({ frames := 0, cells := 0, slots := 0, locals := 0 } : Room) s m args below meth c H locs 0 0 Q (F0 m 0 ls []) := by
  obtain ⟨hx, hb, hml, hown, hts⟩ := id X
  unfold f_isDigit_0 at hf
  refine lv_iload_n hx hb dX12_isDigit_0 rfl (lv_at hl 0 rfl) ?_
  refine lv_bipush (v := (48 : Int32)) hx hb dX12_isDigit_1 (by decide) ?_
  refine lv_icmp_lt (tgt := 16) hx hb dX12_isDigit_3 (by decide) (fun cc1 => ?_) (fun cc1 => ?_)
  · replace hf := m_ifT hf cc1
    exact w_isDigit_16 X hret hf hM (lv_sub hl [] rfl)
  · replace hf := m_ifF hf cc1
    refine lv_iload_n hx hb dX12_isDigit_6 rfl (lv_at hl 0 rfl) ?_
    refine lv_bipush (v := (57 : Int32)) hx hb dX12_isDigit_7 (by decide) ?_
    refine lv_icmp_gt (tgt := 16) hx hb dX12_isDigit_9 (by decide) (fun cc1 => ?_) (fun cc1 => ?_)
    · replace hf := m_ifT hf cc1
      exact w_isDigit_16 X hret hf hM (lv_sub hl [] rfl)
    · replace hf := m_ifF hf cc1
      refine lv_iconst (v := (1 : Int32)) hx hb dX12_isDigit_12 (by decide) ?_
      refine lv_goto (tgt := 17) hx hb dX12_isDigit_13 (by decide) ?_
      exact w_isDigit_17 X hret hf hM (lv_sub hl [] rfl)
noncomputable def f_isDigit (x0 : Int32) (I : Nat → Int32) (A : Nat → Nat → Int32) : Option (Int32 × MS) := f_isDigit_0 x0 I A
theorem c_isDigit {l : Launch} {D : va_G} {cy ci : ClassId} {h : Nat → Nat} {x0 : Int32} {I : Nat → Int32} {A : Nat → Nat → Int32} {o : Int32 × MS} (hf : f_isDigit x0 I A = some o) : mMi l yX12_isDigit wsX12_isDigit ({ frames := 0, cells := 0, slots := 0, locals := 0 } : Room) [.int x0] D cy ci h I A o :=
  m_entryI (cc := cX12_isDigit) (maxL := 1) (by decide) rfl rfl (Nat.le_of_ble_eq_true rfl) (fun p e s m args below meth c A0 Q H locs ls X hret hM hl => w_isDigit_0 X hret hf hM (lv_sub hl [0] rfl))
theorem hw_isTag : ∀ w ∈ wsX120, w ∈ wsX12_isTag := by decide +kernel
theorem fl_isTag_19 : Cond.fieldLink RX12 55 "MoveTextsModel" "nameSize" "[I" ∈ wsX12_isTag := by decide +kernel
theorem fl_isTag_20 : Cond.fieldLink RX12 58 "MoveTextsModel" "names" "[C" ∈ wsX12_isTag := by decide +kernel
theorem hd_isTag : yX12_isTag.cls = RX12 ∧ yX12_isTag.cls ≠ "java/lang/invoke/MethodHandle" ∧ yX12_isTag.cls ≠ "java/lang/invoke/VarHandle" ∧ (parseMethodDescriptor yX12_isTag.desc).map (fun d => d.parameters.length) = some 3 := by decide +kernel
noncomputable def f_isTag_173 (x5 : Int32) (I : Nat → Int32) (A : Nat → Nat → Int32) : Option (Int32 × MS) :=
  m_chk (vp_nar .boolean x5 = x5) (some (x5, (I, A)))

set_option maxRecDepth 100000 in
set_option maxHeartbeats 4000000 in
theorem w_isTag_173 {p : Program} {l : Launch} {e : Env} {s : State} {m : MethodId} {args : Array Value} {below : List Frame} {meth : Method} {c : Code} {Q : State → Prop} {D : va_G} {cy ci : ClassId} {h : Nat → Nat} {A0 : Nat → Prop} {o : Int32 × MS} (X : CallFix p m c cX12_isTag 8 s args wsX12_isTag RX12) (hret : mRi p l e ({ frames := 0, cells := 0, slots := 0, locals := 0 } : Room) s m args below meth c Q cX12_isTag D cy ci h A0 .boolean o) {x5 : Int32} {I : Nat → Int32} {A : Nat → Nat → Int32} {H : Heap} {locs : List Loc} {ls : Array Slot} (hf : f_isTag_173 x5 I A = some o) (hM : mH D cy ci h A0 s H locs I A) (hl : lv_has ls 8 [(5, .int x5)]) : W p l e ({ frames := 0, cells := 0, slots := 0, locals := 0 } : Room) s m args below meth c H locs 0 0 Q (F0 m 173 ls []) := by
  obtain ⟨hx, hb, hml, hown, hts⟩ := id X
  unfold f_isTag_173 at hf
  refine lv_iload hx hb dX12_isTag_173 (lv_at hl 0 rfl) ?_
  obtain ⟨cd, hf⟩ := m_chkE hf
  cases hf
  exact hret H locs _ ls hM (m_nb cd) dX12_isTag_175
noncomputable def f_isTag_165 (self38 : Int32 → Int32 → Int32 → Int32 → Int32 → Int32 → (Nat → Int32) → (Nat → Nat → Int32) → Option (Int32 × MS)) (x1 : Int32) (x2 : Int32) (x3 : Int32) (x4 : Int32) (x6 : Int32) (t0 : Int32) (I : Nat → Int32) (A : Nat → Nat → Int32) : Option (Int32 × MS) :=
  m_bnd (x6 + (1 : Int32)) (fun v1 =>
  self38 x1 x2 x3 x4 t0 v1 I A)

set_option maxRecDepth 100000 in
set_option maxHeartbeats 4000000 in
theorem w_isTag_165 {p : Program} {l : Launch} {e : Env} {s : State} {m : MethodId} {args : Array Value} {below : List Frame} {meth : Method} {c : Code} {Q : State → Prop} {D : va_G} {cy ci : ClassId} {h : Nat → Nat} {A0 : Nat → Prop} {o : Int32 × MS} (X : CallFix p m c cX12_isTag 8 s args wsX12_isTag RX12) (hret : mRi p l e ({ frames := 0, cells := 0, slots := 0, locals := 0 } : Room) s m args below meth c Q cX12_isTag D cy ci h A0 .boolean o) {self38 : Int32 → Int32 → Int32 → Int32 → Int32 → Int32 → (Nat → Int32) → (Nat → Nat → Int32) → Option (Int32 × MS)} (hself38 : ∀ (x1 : Int32) (x2 : Int32) (x3 : Int32) (x4 : Int32) (x5 : Int32) (x6 : Int32) (I : Nat → Int32) (A : Nat → Nat → Int32) (H : Heap) (locs : List Loc) (ls : Array Slot), self38 x1 x2 x3 x4 x5 x6 I A = some o → mH D cy ci h A0 s H locs I A → lv_has ls 8 [(0, .ref (h 0)), (1, .int x1), (2, .int x2), (3, .int x3), (4, .int x4), (5, .int x5), (6, .int x6)] → W p l e ({ frames := 0, cells := 0, slots := 0, locals := 0 } : Room) s m args below meth c H locs 0 0 Q (F0 m 38 ls [])) {x1 : Int32} {x2 : Int32} {x3 : Int32} {x4 : Int32} {x6 : Int32} {t0 : Int32} {I : Nat → Int32} {A : Nat → Nat → Int32} {H : Heap} {locs : List Loc} {ls : Array Slot} (hf : f_isTag_165 self38 x1 x2 x3 x4 x6 t0 I A = some o) (hM : mH D cy ci h A0 s H locs I A) (hl : lv_has ls 8 [(0, .ref (h 0)), (1, .int x1), (2, .int x2), (3, .int x3), (4, .int x4), (6, .int x6)]) : W p l e ({ frames := 0, cells := 0, slots := 0, locals := 0 } : Room) s m args below meth c H locs 0 0 Q (F0 m 165 ls [.int t0]) := by
  obtain ⟨hx, hb, hml, hown, hts⟩ := id X
  unfold f_isTag_165 at hf
  refine lv_istore (lv' := [(5, .int t0), (0, .ref (h 0)), (1, .int x1), (2, .int x2), (3, .int x3), (4, .int x4), (6, .int x6)]) hx hb dX12_isTag_165 hl (by decide) rfl (fun ls hl => ?_)
  obtain ⟨v1, ev, hf⟩ := m_bndE hf
  refine lv_iinc (v := v1) (lv' := [(6, .int v1), (5, .int t0), (0, .ref (h 0)), (1, .int x1), (2, .int x2), (3, .int x3), (4, .int x4)]) hx hb dX12_isTag_167 hl (k := 6) rfl (by rw [ev]; rfl) (by decide) rfl (fun ls hl => ?_)
  clear ev
  refine lv_goto (tgt := 38) hx hb dX12_isTag_170 (by decide) ?_
  exact hself38 _ _ _ _ _ _ _ _ _ _ _ hf hM (lv_sub hl [2, 3, 4, 5, 6, 1, 0] rfl)
noncomputable def f_isTag_136 (self38 : Int32 → Int32 → Int32 → Int32 → Int32 → Int32 → (Nat → Int32) → (Nat → Nat → Int32) → Option (Int32 × MS)) (x1 : Int32) (x2 : Int32) (x3 : Int32) (x4 : Int32) (x6 : Int32) (t0 : Int32) (I : Nat → Int32) (A : Nat → Nat → Int32) : Option (Int32 × MS) :=
  m_bnd ((96 : Int32) * x2) (fun v1 =>
  m_bnd ((12 : Int32) * x1) (fun v2 =>
  m_bnd (v1 + v2) (fun v3 =>
  m_bnd (v3 + x6) (fun v4 =>
  m_chk (¬ (v4 < 0 ∨ 192 ≤ (v4).toNatClampNeg)) (
  m_bnd (A 20 (v4).toNatClampNeg) (fun v5 =>
  m_if (v5 = t0) (
  f_isTag_165 self38 x1 x2 x3 x4 x6 (1 : Int32) I A
  ) (
  f_isTag_165 self38 x1 x2 x3 x4 x6 (0 : Int32) I A
  )))))))

set_option maxRecDepth 100000 in
set_option maxHeartbeats 4000000 in
theorem w_isTag_136 {p : Program} {l : Launch} {e : Env} {s : State} {m : MethodId} {args : Array Value} {below : List Frame} {meth : Method} {c : Code} {Q : State → Prop} {D : va_G} {cy ci : ClassId} {h : Nat → Nat} {A0 : Nat → Prop} {o : Int32 × MS} (X : CallFix p m c cX12_isTag 8 s args wsX12_isTag RX12) (hret : mRi p l e ({ frames := 0, cells := 0, slots := 0, locals := 0 } : Room) s m args below meth c Q cX12_isTag D cy ci h A0 .boolean o) {self38 : Int32 → Int32 → Int32 → Int32 → Int32 → Int32 → (Nat → Int32) → (Nat → Nat → Int32) → Option (Int32 × MS)} (hself38 : ∀ (x1 : Int32) (x2 : Int32) (x3 : Int32) (x4 : Int32) (x5 : Int32) (x6 : Int32) (I : Nat → Int32) (A : Nat → Nat → Int32) (H : Heap) (locs : List Loc) (ls : Array Slot), self38 x1 x2 x3 x4 x5 x6 I A = some o → mH D cy ci h A0 s H locs I A → lv_has ls 8 [(0, .ref (h 0)), (1, .int x1), (2, .int x2), (3, .int x3), (4, .int x4), (5, .int x5), (6, .int x6)] → W p l e ({ frames := 0, cells := 0, slots := 0, locals := 0 } : Room) s m args below meth c H locs 0 0 Q (F0 m 38 ls [])) {x1 : Int32} {x2 : Int32} {x3 : Int32} {x4 : Int32} {x6 : Int32} {t0 : Int32} {I : Nat → Int32} {A : Nat → Nat → Int32} {H : Heap} {locs : List Loc} {ls : Array Slot} (hf : f_isTag_136 self38 x1 x2 x3 x4 x6 t0 I A = some o) (hM : mH D cy ci h A0 s H locs I A) (hl : lv_has ls 8 [(0, .ref (h 0)), (1, .int x1), (2, .int x2), (3, .int x3), (4, .int x4), (6, .int x6)]) : W p l e ({ frames := 0, cells := 0, slots := 0, locals := 0 } : Room) s m args below meth c H locs 0 0 Q (F0 m 136 ls [.int t0]) := by
  obtain ⟨hx, hb, hml, hown, hts⟩ := id X
  unfold f_isTag_136 at hf
  refine lv_istore (lv' := [(7, .int t0), (0, .ref (h 0)), (1, .int x1), (2, .int x2), (3, .int x3), (4, .int x4), (6, .int x6)]) hx hb dX12_isTag_136 hl (by decide) rfl (fun ls hl => ?_)
  refine lv_aload_n hx hb dX12_isTag_138 rfl (lv_at hl 1 rfl) ?_
  refine m_get (v := .ref (h 20)) X hw_isTag hM 20 (by decide) fl_isTag_20 rfl dX12_isTag_139 ?_
  refine lv_bipush (v := (96 : Int32)) hx hb dX12_isTag_142 (by decide) ?_
  refine lv_iload_n hx hb dX12_isTag_144 rfl (lv_at hl 3 rfl) ?_
  refine lv_imul hx hb dX12_isTag_145 ?_
  obtain ⟨v1, ev, hf⟩ := m_bndE hf
  refine m_top ev ?_
  clear ev
  refine lv_bipush (v := (12 : Int32)) hx hb dX12_isTag_146 (by decide) ?_
  refine lv_iload_n hx hb dX12_isTag_148 rfl (lv_at hl 2 rfl) ?_
  refine lv_imul hx hb dX12_isTag_149 ?_
  obtain ⟨v2, ev, hf⟩ := m_bndE hf
  refine m_top ev ?_
  clear ev
  refine lv_iadd hx hb dX12_isTag_150 ?_
  obtain ⟨v3, ev, hf⟩ := m_bndE hf
  refine m_top ev ?_
  clear ev
  refine lv_iload hx hb dX12_isTag_151 (lv_at hl 6 rfl) ?_
  refine lv_iadd hx hb dX12_isTag_153 ?_
  obtain ⟨v4, ev, hf⟩ := m_bndE hf
  refine m_top ev ?_
  clear ev
  obtain ⟨cd, hf⟩ := m_chkE hf
  refine m_cald X hM 20 16 192 rfl cd dX12_isTag_154 ?_
  clear cd
  obtain ⟨v5, ev, hf⟩ := m_bndE hf
  refine m_top ev ?_
  clear ev
  refine lv_iload hx hb dX12_isTag_155 (lv_at hl 0 rfl) ?_
  refine lv_icmp_ne (tgt := 164) hx hb dX12_isTag_157 (by decide) (fun cc1 => ?_) (fun cc1 => ?_)
  · replace hf := m_ifF hf cc1
    refine lv_iconst (v := (0 : Int32)) hx hb dX12_isTag_164 (by decide) ?_
    exact w_isTag_165 X hret hself38 hf hM (lv_sub hl [1, 2, 3, 4, 5, 6] rfl)
  · replace hf := m_ifT hf cc1
    refine lv_iconst (v := (1 : Int32)) hx hb dX12_isTag_160 (by decide) ?_
    refine lv_goto (tgt := 165) hx hb dX12_isTag_161 (by decide) ?_
    exact w_isTag_165 X hret hself38 hf hM (lv_sub hl [1, 2, 3, 4, 5, 6] rfl)
noncomputable def f_isTag_38s (self38 : Int32 → Int32 → Int32 → Int32 → Int32 → Int32 → (Nat → Int32) → (Nat → Nat → Int32) → Option (Int32 × MS)) (x1 : Int32) (x2 : Int32) (x3 : Int32) (x4 : Int32) (x5 : Int32) (x6 : Int32) (I : Nat → Int32) (A : Nat → Nat → Int32) : Option (Int32 × MS) :=
  m_if (x4 ≤ x6) (
  f_isTag_173 x5 I A
  ) (
  m_if (x5 = 0) (
  f_isTag_173 x5 I A
  ) (
  m_if (x3 = 0) (
  m_if (x6 = 0) (
  f_isTag_136 self38 x1 x2 x3 x4 x6 (70 : Int32) I A
  ) (
  m_if (x6 = (1 : Int32)) (
  f_isTag_136 self38 x1 x2 x3 x4 x6 (69 : Int32) I A
  ) (
  f_isTag_136 self38 x1 x2 x3 x4 x6 (78 : Int32) I A
  )
  )
  ) (
  m_if (x6 = 0) (
  f_isTag_136 self38 x1 x2 x3 x4 x6 (82 : Int32) I A
  ) (
  m_if (x6 = (1 : Int32)) (
  f_isTag_136 self38 x1 x2 x3 x4 x6 (101 : Int32) I A
  ) (
  m_if (x6 = (2 : Int32)) (
  f_isTag_136 self38 x1 x2 x3 x4 x6 (115 : Int32) I A
  ) (
  m_if (x6 = (3 : Int32)) (
  f_isTag_136 self38 x1 x2 x3 x4 x6 (117 : Int32) I A
  ) (
  m_if (x6 = (4 : Int32)) (
  f_isTag_136 self38 x1 x2 x3 x4 x6 (108 : Int32) I A
  ) (
  f_isTag_136 self38 x1 x2 x3 x4 x6 (116 : Int32) I A
  )
  )
  )
  )
  )
  )
  )
  )

set_option maxRecDepth 100000 in
set_option maxHeartbeats 4000000 in
theorem ws_isTag_38 {p : Program} {l : Launch} {e : Env} {s : State} {m : MethodId} {args : Array Value} {below : List Frame} {meth : Method} {c : Code} {Q : State → Prop} {D : va_G} {cy ci : ClassId} {h : Nat → Nat} {A0 : Nat → Prop} {o : Int32 × MS} (X : CallFix p m c cX12_isTag 8 s args wsX12_isTag RX12) (hret : mRi p l e ({ frames := 0, cells := 0, slots := 0, locals := 0 } : Room) s m args below meth c Q cX12_isTag D cy ci h A0 .boolean o) {self38 : Int32 → Int32 → Int32 → Int32 → Int32 → Int32 → (Nat → Int32) → (Nat → Nat → Int32) → Option (Int32 × MS)} (hself38 : ∀ (x1 : Int32) (x2 : Int32) (x3 : Int32) (x4 : Int32) (x5 : Int32) (x6 : Int32) (I : Nat → Int32) (A : Nat → Nat → Int32) (H : Heap) (locs : List Loc) (ls : Array Slot), self38 x1 x2 x3 x4 x5 x6 I A = some o → mH D cy ci h A0 s H locs I A → lv_has ls 8 [(0, .ref (h 0)), (1, .int x1), (2, .int x2), (3, .int x3), (4, .int x4), (5, .int x5), (6, .int x6)] → W p l e ({ frames := 0, cells := 0, slots := 0, locals := 0 } : Room) s m args below meth c H locs 0 0 Q (F0 m 38 ls [])) {x1 : Int32} {x2 : Int32} {x3 : Int32} {x4 : Int32} {x5 : Int32} {x6 : Int32} {I : Nat → Int32} {A : Nat → Nat → Int32} {H : Heap} {locs : List Loc} {ls : Array Slot} (hf : f_isTag_38s self38 x1 x2 x3 x4 x5 x6 I A = some o) (hM : mH D cy ci h A0 s H locs I A) (hl : lv_has ls 8 [(0, .ref (h 0)), (1, .int x1), (2, .int x2), (3, .int x3), (4, .int x4), (5, .int x5), (6, .int x6)]) : W p l e ({ frames := 0, cells := 0, slots := 0, locals := 0 } : Room) s m args below meth c H locs 0 0 Q (F0 m 38 ls []) := by
  obtain ⟨hx, hb, hml, hown, hts⟩ := id X
  unfold f_isTag_38s at hf
  refine lv_iload hx hb dX12_isTag_38 (lv_at hl 6 rfl) ?_
  refine lv_iload hx hb dX12_isTag_40 (lv_at hl 4 rfl) ?_
  refine lv_icmp_ge (tgt := 173) hx hb dX12_isTag_42 (by decide) (fun cc1 => ?_) (fun cc1 => ?_)
  · replace hf := m_ifT hf cc1
    exact w_isTag_173 X hret hf hM (lv_sub hl [5] rfl)
  · replace hf := m_ifF hf cc1
    refine lv_iload hx hb dX12_isTag_45 (lv_at hl 5 rfl) ?_
    refine lv_if_eq (tgt := 173) hx hb dX12_isTag_47 (by decide) (fun cc1 => ?_) (fun cc1 => ?_)
    · replace hf := m_ifT hf cc1
      exact w_isTag_173 X hret hf hM (lv_sub hl [5] rfl)
    · replace hf := m_ifF hf cc1
      refine lv_iload_n hx hb dX12_isTag_50 rfl (lv_at hl 3 rfl) ?_
      refine lv_if_ne (tgt := 80) hx hb dX12_isTag_51 (by decide) (fun cc1 => ?_) (fun cc1 => ?_)
      · replace hf := m_ifF hf cc1
        refine lv_iload hx hb dX12_isTag_80 (lv_at hl 6 rfl) ?_
        refine lv_if_ne (tgt := 90) hx hb dX12_isTag_82 (by decide) (fun cc1 => ?_) (fun cc1 => ?_)
        · replace hf := m_ifF hf cc1
          refine lv_iload hx hb dX12_isTag_90 (lv_at hl 6 rfl) ?_
          refine lv_iconst (v := (1 : Int32)) hx hb dX12_isTag_92 (by decide) ?_
          refine lv_icmp_ne (tgt := 101) hx hb dX12_isTag_93 (by decide) (fun cc1 => ?_) (fun cc1 => ?_)
          · replace hf := m_ifF hf cc1
            refine lv_iload hx hb dX12_isTag_101 (lv_at hl 6 rfl) ?_
            refine lv_iconst (v := (2 : Int32)) hx hb dX12_isTag_103 (by decide) ?_
            refine lv_icmp_ne (tgt := 112) hx hb dX12_isTag_104 (by decide) (fun cc1 => ?_) (fun cc1 => ?_)
            · replace hf := m_ifF hf cc1
              refine lv_iload hx hb dX12_isTag_112 (lv_at hl 6 rfl) ?_
              refine lv_iconst (v := (3 : Int32)) hx hb dX12_isTag_114 (by decide) ?_
              refine lv_icmp_ne (tgt := 123) hx hb dX12_isTag_115 (by decide) (fun cc1 => ?_) (fun cc1 => ?_)
              · replace hf := m_ifF hf cc1
                refine lv_iload hx hb dX12_isTag_123 (lv_at hl 6 rfl) ?_
                refine lv_iconst (v := (4 : Int32)) hx hb dX12_isTag_125 (by decide) ?_
                refine lv_icmp_ne (tgt := 134) hx hb dX12_isTag_126 (by decide) (fun cc1 => ?_) (fun cc1 => ?_)
                · replace hf := m_ifF hf cc1
                  refine lv_bipush (v := (116 : Int32)) hx hb dX12_isTag_134 (by decide) ?_
                  exact w_isTag_136 X hret hself38 hf hM (lv_sub hl [0, 1, 2, 3, 4, 6] rfl)
                · replace hf := m_ifT hf cc1
                  refine lv_bipush (v := (108 : Int32)) hx hb dX12_isTag_129 (by decide) ?_
                  refine lv_goto (tgt := 136) hx hb dX12_isTag_131 (by decide) ?_
                  exact w_isTag_136 X hret hself38 hf hM (lv_sub hl [0, 1, 2, 3, 4, 6] rfl)
              · replace hf := m_ifT hf cc1
                refine lv_bipush (v := (117 : Int32)) hx hb dX12_isTag_118 (by decide) ?_
                refine lv_goto (tgt := 136) hx hb dX12_isTag_120 (by decide) ?_
                exact w_isTag_136 X hret hself38 hf hM (lv_sub hl [0, 1, 2, 3, 4, 6] rfl)
            · replace hf := m_ifT hf cc1
              refine lv_bipush (v := (115 : Int32)) hx hb dX12_isTag_107 (by decide) ?_
              refine lv_goto (tgt := 136) hx hb dX12_isTag_109 (by decide) ?_
              exact w_isTag_136 X hret hself38 hf hM (lv_sub hl [0, 1, 2, 3, 4, 6] rfl)
          · replace hf := m_ifT hf cc1
            refine lv_bipush (v := (101 : Int32)) hx hb dX12_isTag_96 (by decide) ?_
            refine lv_goto (tgt := 136) hx hb dX12_isTag_98 (by decide) ?_
            exact w_isTag_136 X hret hself38 hf hM (lv_sub hl [0, 1, 2, 3, 4, 6] rfl)
        · replace hf := m_ifT hf cc1
          refine lv_bipush (v := (82 : Int32)) hx hb dX12_isTag_85 (by decide) ?_
          refine lv_goto (tgt := 136) hx hb dX12_isTag_87 (by decide) ?_
          exact w_isTag_136 X hret hself38 hf hM (lv_sub hl [0, 1, 2, 3, 4, 6] rfl)
      · replace hf := m_ifT hf cc1
        refine lv_iload hx hb dX12_isTag_54 (lv_at hl 6 rfl) ?_
        refine lv_if_ne (tgt := 64) hx hb dX12_isTag_56 (by decide) (fun cc1 => ?_) (fun cc1 => ?_)
        · replace hf := m_ifF hf cc1
          refine lv_iload hx hb dX12_isTag_64 (lv_at hl 6 rfl) ?_
          refine lv_iconst (v := (1 : Int32)) hx hb dX12_isTag_66 (by decide) ?_
          refine lv_icmp_ne (tgt := 75) hx hb dX12_isTag_67 (by decide) (fun cc1 => ?_) (fun cc1 => ?_)
          · replace hf := m_ifF hf cc1
            refine lv_bipush (v := (78 : Int32)) hx hb dX12_isTag_75 (by decide) ?_
            refine lv_goto (tgt := 136) hx hb dX12_isTag_77 (by decide) ?_
            exact w_isTag_136 X hret hself38 hf hM (lv_sub hl [0, 1, 2, 3, 4, 6] rfl)
          · replace hf := m_ifT hf cc1
            refine lv_bipush (v := (69 : Int32)) hx hb dX12_isTag_70 (by decide) ?_
            refine lv_goto (tgt := 136) hx hb dX12_isTag_72 (by decide) ?_
            exact w_isTag_136 X hret hself38 hf hM (lv_sub hl [0, 1, 2, 3, 4, 6] rfl)
        · replace hf := m_ifT hf cc1
          refine lv_bipush (v := (70 : Int32)) hx hb dX12_isTag_59 (by decide) ?_
          refine lv_goto (tgt := 136) hx hb dX12_isTag_61 (by decide) ?_
          exact w_isTag_136 X hret hself38 hf hM (lv_sub hl [0, 1, 2, 3, 4, 6] rfl)
noncomputable def f_isTag_38 : Nat → Int32 → Int32 → Int32 → Int32 → Int32 → Int32 → (Nat → Int32) → (Nat → Nat → Int32) → Option (Int32 × MS)
  | 0 => fun _ _ _ _ _ _ _ _ => none
  | n + 1 => f_isTag_38s (f_isTag_38 n)
theorem w_isTag_38 {p : Program} {l : Launch} {e : Env} {s : State} {m : MethodId} {args : Array Value} {below : List Frame} {meth : Method} {c : Code} {Q : State → Prop} {D : va_G} {cy ci : ClassId} {h : Nat → Nat} {A0 : Nat → Prop} {o : Int32 × MS} (X : CallFix p m c cX12_isTag 8 s args wsX12_isTag RX12) (hret : mRi p l e ({ frames := 0, cells := 0, slots := 0, locals := 0 } : Room) s m args below meth c Q cX12_isTag D cy ci h A0 .boolean o) (n : Nat) : ∀ (x1 : Int32) (x2 : Int32) (x3 : Int32) (x4 : Int32) (x5 : Int32) (x6 : Int32) (I : Nat → Int32) (A : Nat → Nat → Int32) (H : Heap) (locs : List Loc) (ls : Array Slot), f_isTag_38 n x1 x2 x3 x4 x5 x6 I A = some o → mH D cy ci h A0 s H locs I A → lv_has ls 8 [(0, .ref (h 0)), (1, .int x1), (2, .int x2), (3, .int x3), (4, .int x4), (5, .int x5), (6, .int x6)] → W p l e ({ frames := 0, cells := 0, slots := 0, locals := 0 } : Room) s m args below meth c H locs 0 0 Q (F0 m 38 ls []) := by
  induction n with
  | zero => intro x1 x2 x3 x4 x5 x6 I A H locs ls hf; cases hf
  | succ n ih => intro x1 x2 x3 x4 x5 x6 I A H locs ls hf hM hl; exact ws_isTag_38 X hret (self38 := f_isTag_38 n) ih hf hM hl
noncomputable def f_isTag_33 (x1 : Int32) (x2 : Int32) (x3 : Int32) (x4 : Int32) (t0 : Int32) (I : Nat → Int32) (A : Nat → Nat → Int32) : Option (Int32 × MS) :=
  f_isTag_38 mFuel x1 x2 x3 x4 t0 (0 : Int32) I A

set_option maxRecDepth 100000 in
set_option maxHeartbeats 4000000 in
theorem w_isTag_33 {p : Program} {l : Launch} {e : Env} {s : State} {m : MethodId} {args : Array Value} {below : List Frame} {meth : Method} {c : Code} {Q : State → Prop} {D : va_G} {cy ci : ClassId} {h : Nat → Nat} {A0 : Nat → Prop} {o : Int32 × MS} (X : CallFix p m c cX12_isTag 8 s args wsX12_isTag RX12) (hret : mRi p l e ({ frames := 0, cells := 0, slots := 0, locals := 0 } : Room) s m args below meth c Q cX12_isTag D cy ci h A0 .boolean o) {x1 : Int32} {x2 : Int32} {x3 : Int32} {x4 : Int32} {t0 : Int32} {I : Nat → Int32} {A : Nat → Nat → Int32} {H : Heap} {locs : List Loc} {ls : Array Slot} (hf : f_isTag_33 x1 x2 x3 x4 t0 I A = some o) (hM : mH D cy ci h A0 s H locs I A) (hl : lv_has ls 8 [(0, .ref (h 0)), (1, .int x1), (2, .int x2), (3, .int x3), (4, .int x4)]) : W p l e ({ frames := 0, cells := 0, slots := 0, locals := 0 } : Room) s m args below meth c H locs 0 0 Q (F0 m 33 ls [.int t0]) := by
  obtain ⟨hx, hb, hml, hown, hts⟩ := id X
  unfold f_isTag_33 at hf
  refine lv_istore (lv' := [(5, .int t0), (0, .ref (h 0)), (1, .int x1), (2, .int x2), (3, .int x3), (4, .int x4)]) hx hb dX12_isTag_33 hl (by decide) rfl (fun ls hl => ?_)
  refine lv_iconst (v := (0 : Int32)) hx hb dX12_isTag_35 (by decide) ?_
  refine lv_istore (lv' := [(6, .int (0 : Int32)), (5, .int t0), (0, .ref (h 0)), (1, .int x1), (2, .int x2), (3, .int x3), (4, .int x4)]) hx hb dX12_isTag_36 hl (by decide) rfl (fun ls hl => ?_)
  exact w_isTag_38 X hret _ _ _ _ _ _ _ _ _ _ _ _ hf hM (lv_sub hl [2, 3, 4, 5, 6, 1, 0] rfl)
noncomputable def f_isTag_10 (x1 : Int32) (x2 : Int32) (x3 : Int32) (t0 : Int32) (I : Nat → Int32) (A : Nat → Nat → Int32) : Option (Int32 × MS) :=
  m_bnd ((8 : Int32) * x2) (fun v1 =>
  m_bnd (v1 + x1) (fun v2 =>
  m_chk (¬ (v2 < 0 ∨ 16 ≤ (v2).toNatClampNeg)) (
  m_bnd (A 19 (v2).toNatClampNeg) (fun v3 =>
  m_if (v3 = t0) (
  f_isTag_33 x1 x2 x3 t0 (1 : Int32) I A
  ) (
  f_isTag_33 x1 x2 x3 t0 (0 : Int32) I A
  )))))

set_option maxRecDepth 100000 in
set_option maxHeartbeats 4000000 in
theorem w_isTag_10 {p : Program} {l : Launch} {e : Env} {s : State} {m : MethodId} {args : Array Value} {below : List Frame} {meth : Method} {c : Code} {Q : State → Prop} {D : va_G} {cy ci : ClassId} {h : Nat → Nat} {A0 : Nat → Prop} {o : Int32 × MS} (X : CallFix p m c cX12_isTag 8 s args wsX12_isTag RX12) (hret : mRi p l e ({ frames := 0, cells := 0, slots := 0, locals := 0 } : Room) s m args below meth c Q cX12_isTag D cy ci h A0 .boolean o) {x1 : Int32} {x2 : Int32} {x3 : Int32} {t0 : Int32} {I : Nat → Int32} {A : Nat → Nat → Int32} {H : Heap} {locs : List Loc} {ls : Array Slot} (hf : f_isTag_10 x1 x2 x3 t0 I A = some o) (hM : mH D cy ci h A0 s H locs I A) (hl : lv_has ls 8 [(0, .ref (h 0)), (1, .int x1), (2, .int x2), (3, .int x3)]) : W p l e ({ frames := 0, cells := 0, slots := 0, locals := 0 } : Room) s m args below meth c H locs 0 0 Q (F0 m 10 ls [.int t0]) := by
  obtain ⟨hx, hb, hml, hown, hts⟩ := id X
  unfold f_isTag_10 at hf
  refine lv_istore (lv' := [(4, .int t0), (0, .ref (h 0)), (1, .int x1), (2, .int x2), (3, .int x3)]) hx hb dX12_isTag_10 hl (by decide) rfl (fun ls hl => ?_)
  refine lv_aload_n hx hb dX12_isTag_12 rfl (lv_at hl 1 rfl) ?_
  refine m_get (v := .ref (h 19)) X hw_isTag hM 19 (by decide) fl_isTag_19 rfl dX12_isTag_13 ?_
  refine lv_bipush (v := (8 : Int32)) hx hb dX12_isTag_16 (by decide) ?_
  refine lv_iload_n hx hb dX12_isTag_18 rfl (lv_at hl 3 rfl) ?_
  refine lv_imul hx hb dX12_isTag_19 ?_
  obtain ⟨v1, ev, hf⟩ := m_bndE hf
  refine m_top ev ?_
  clear ev
  refine lv_iload_n hx hb dX12_isTag_20 rfl (lv_at hl 2 rfl) ?_
  refine lv_iadd hx hb dX12_isTag_21 ?_
  obtain ⟨v2, ev, hf⟩ := m_bndE hf
  refine m_top ev ?_
  clear ev
  obtain ⟨cd, hf⟩ := m_chkE hf
  refine m_iald X hM 19 15 16 rfl cd dX12_isTag_22 ?_
  clear cd
  obtain ⟨v3, ev, hf⟩ := m_bndE hf
  refine m_top ev ?_
  clear ev
  refine lv_iload hx hb dX12_isTag_23 (lv_at hl 0 rfl) ?_
  refine lv_icmp_ne (tgt := 32) hx hb dX12_isTag_25 (by decide) (fun cc1 => ?_) (fun cc1 => ?_)
  · replace hf := m_ifF hf cc1
    refine lv_iconst (v := (0 : Int32)) hx hb dX12_isTag_32 (by decide) ?_
    exact w_isTag_33 X hret hf hM (lv_sub hl [1, 2, 3, 4, 0] rfl)
  · replace hf := m_ifT hf cc1
    refine lv_iconst (v := (1 : Int32)) hx hb dX12_isTag_28 (by decide) ?_
    refine lv_goto (tgt := 33) hx hb dX12_isTag_29 (by decide) ?_
    exact w_isTag_33 X hret hf hM (lv_sub hl [1, 2, 3, 4, 0] rfl)
noncomputable def f_isTag_0 (x1 : Int32) (x2 : Int32) (x3 : Int32) (I : Nat → Int32) (A : Nat → Nat → Int32) : Option (Int32 × MS) :=
  m_if (x3 = 0) (
  f_isTag_10 x1 x2 x3 (3 : Int32) I A
  ) (
  f_isTag_10 x1 x2 x3 (6 : Int32) I A
  )

set_option maxRecDepth 100000 in
set_option maxHeartbeats 4000000 in
theorem w_isTag_0 {p : Program} {l : Launch} {e : Env} {s : State} {m : MethodId} {args : Array Value} {below : List Frame} {meth : Method} {c : Code} {Q : State → Prop} {D : va_G} {cy ci : ClassId} {h : Nat → Nat} {A0 : Nat → Prop} {o : Int32 × MS} (X : CallFix p m c cX12_isTag 8 s args wsX12_isTag RX12) (hret : mRi p l e ({ frames := 0, cells := 0, slots := 0, locals := 0 } : Room) s m args below meth c Q cX12_isTag D cy ci h A0 .boolean o) {x1 : Int32} {x2 : Int32} {x3 : Int32} {I : Nat → Int32} {A : Nat → Nat → Int32} {H : Heap} {locs : List Loc} {ls : Array Slot} (hf : f_isTag_0 x1 x2 x3 I A = some o) (hM : mH D cy ci h A0 s H locs I A) (hl : lv_has ls 8 [(0, .ref (h 0)), (1, .int x1), (2, .int x2), (3, .int x3)]) : W p l e ({ frames := 0, cells := 0, slots := 0, locals := 0 } : Room) s m args below meth c H locs 0 0 Q (F0 m 0 ls []) := by
  obtain ⟨hx, hb, hml, hown, hts⟩ := id X
  unfold f_isTag_0 at hf
  refine lv_iload_n hx hb dX12_isTag_0 rfl (lv_at hl 3 rfl) ?_
  refine lv_if_ne (tgt := 8) hx hb dX12_isTag_1 (by decide) (fun cc1 => ?_) (fun cc1 => ?_)
  · replace hf := m_ifF hf cc1
    refine lv_bipush (v := (6 : Int32)) hx hb dX12_isTag_8 (by decide) ?_
    exact w_isTag_10 X hret hf hM (lv_sub hl [0, 1, 2, 3] rfl)
  · replace hf := m_ifT hf cc1
    refine lv_iconst (v := (3 : Int32)) hx hb dX12_isTag_4 (by decide) ?_
    refine lv_goto (tgt := 10) hx hb dX12_isTag_5 (by decide) ?_
    exact w_isTag_10 X hret hf hM (lv_sub hl [0, 1, 2, 3] rfl)
noncomputable def f_isTag (x1 : Int32) (x2 : Int32) (x3 : Int32) (I : Nat → Int32) (A : Nat → Nat → Int32) : Option (Int32 × MS) := f_isTag_0 x1 x2 x3 I A
theorem c_isTag {l : Launch} {D : va_G} {cy ci : ClassId} {h : Nat → Nat} {x1 : Int32} {x2 : Int32} {x3 : Int32} {I : Nat → Int32} {A : Nat → Nat → Int32} {o : Int32 × MS} (hf : f_isTag x1 x2 x3 I A = some o) : mMi l yX12_isTag wsX12_isTag ({ frames := 0, cells := 0, slots := 0, locals := 0 } : Room) [.ref (h 0), .int x1, .int x2, .int x3] D cy ci h I A o :=
  m_entryI (cc := cX12_isTag) (maxL := 8) (by decide) rfl rfl (Nat.le_of_ble_eq_true rfl) (fun p e s m args below meth c A0 Q H locs ls X hret hM hl => w_isTag_0 X hret hf hM (lv_sub hl [0, 1, 2, 3] rfl))
theorem hw_isNameThere : ∀ w ∈ wsX120, w ∈ wsX12_isNameThere := by decide +kernel
theorem fl_isNameThere_19 : Cond.fieldLink RX12 55 "MoveTextsModel" "nameSize" "[I" ∈ wsX12_isNameThere := by decide +kernel
theorem fl_isNameThere_20 : Cond.fieldLink RX12 58 "MoveTextsModel" "names" "[C" ∈ wsX12_isNameThere := by decide +kernel
theorem hd_isNameThere : yX12_isNameThere.cls = RX12 ∧ yX12_isNameThere.cls ≠ "java/lang/invoke/MethodHandle" ∧ yX12_isNameThere.cls ≠ "java/lang/invoke/VarHandle" ∧ (parseMethodDescriptor yX12_isNameThere.desc).map (fun d => d.parameters.length) = some 2 := by decide +kernel
noncomputable def f_isNameThere_133 (self5 : Int32 → Int32 → Int32 → Int32 → (Nat → Int32) → (Nat → Nat → Int32) → Option (Int32 × MS)) (x1 : Int32) (x2 : Int32) (x4 : Int32) (t0 : Int32) (I : Nat → Int32) (A : Nat → Nat → Int32) : Option (Int32 × MS) :=
  m_bnd (x4 + (1 : Int32)) (fun v1 =>
  self5 x1 x2 t0 v1 I A)

set_option maxRecDepth 100000 in
set_option maxHeartbeats 4000000 in
theorem w_isNameThere_133 {p : Program} {l : Launch} {e : Env} {s : State} {m : MethodId} {args : Array Value} {below : List Frame} {meth : Method} {c : Code} {Q : State → Prop} {D : va_G} {cy ci : ClassId} {h : Nat → Nat} {A0 : Nat → Prop} {o : Int32 × MS} (X : CallFix p m c cX12_isNameThere 7 s args wsX12_isNameThere RX12) (hret : mRi p l e ({ frames := 0, cells := 0, slots := 0, locals := 0 } : Room) s m args below meth c Q cX12_isNameThere D cy ci h A0 .boolean o) {self5 : Int32 → Int32 → Int32 → Int32 → (Nat → Int32) → (Nat → Nat → Int32) → Option (Int32 × MS)} (hself5 : ∀ (x1 : Int32) (x2 : Int32) (x3 : Int32) (x4 : Int32) (I : Nat → Int32) (A : Nat → Nat → Int32) (H : Heap) (locs : List Loc) (ls : Array Slot), self5 x1 x2 x3 x4 I A = some o → mH D cy ci h A0 s H locs I A → lv_has ls 7 [(0, .ref (h 0)), (1, .int x1), (2, .int x2), (3, .int x3), (4, .int x4)] → W p l e ({ frames := 0, cells := 0, slots := 0, locals := 0 } : Room) s m args below meth c H locs 0 0 Q (F0 m 5 ls [])) {x1 : Int32} {x2 : Int32} {x4 : Int32} {t0 : Int32} {I : Nat → Int32} {A : Nat → Nat → Int32} {H : Heap} {locs : List Loc} {ls : Array Slot} (hf : f_isNameThere_133 self5 x1 x2 x4 t0 I A = some o) (hM : mH D cy ci h A0 s H locs I A) (hl : lv_has ls 7 [(0, .ref (h 0)), (1, .int x1), (2, .int x2), (4, .int x4)]) : W p l e ({ frames := 0, cells := 0, slots := 0, locals := 0 } : Room) s m args below meth c H locs 0 0 Q (F0 m 133 ls [.int t0]) := by
  obtain ⟨hx, hb, hml, hown, hts⟩ := id X
  unfold f_isNameThere_133 at hf
  refine lv_istore_n (lv' := [(3, .int t0), (0, .ref (h 0)), (1, .int x1), (2, .int x2), (4, .int x4)]) hx hb dX12_isNameThere_133 rfl hl (by decide) rfl (fun ls hl => ?_)
  obtain ⟨v1, ev, hf⟩ := m_bndE hf
  refine lv_iinc (v := v1) (lv' := [(4, .int v1), (3, .int t0), (0, .ref (h 0)), (1, .int x1), (2, .int x2)]) hx hb dX12_isNameThere_134 hl (k := 4) rfl (by rw [ev]; rfl) (by decide) rfl (fun ls hl => ?_)
  clear ev
  refine lv_goto (tgt := 5) hx hb dX12_isNameThere_137 (by decide) ?_
  exact hself5 _ _ _ _ _ _ _ _ _ hf hM (lv_sub hl [2, 3, 4, 1, 0] rfl)
noncomputable def f_isNameThere_128 (self5 : Int32 → Int32 → Int32 → Int32 → (Nat → Int32) → (Nat → Nat → Int32) → Option (Int32 × MS)) (x1 : Int32) (x2 : Int32) (x4 : Int32) (I : Nat → Int32) (A : Nat → Nat → Int32) : Option (Int32 × MS) :=
  f_isNameThere_133 self5 x1 x2 x4 (1 : Int32) I A

set_option maxRecDepth 100000 in
set_option maxHeartbeats 4000000 in
theorem w_isNameThere_128 {p : Program} {l : Launch} {e : Env} {s : State} {m : MethodId} {args : Array Value} {below : List Frame} {meth : Method} {c : Code} {Q : State → Prop} {D : va_G} {cy ci : ClassId} {h : Nat → Nat} {A0 : Nat → Prop} {o : Int32 × MS} (X : CallFix p m c cX12_isNameThere 7 s args wsX12_isNameThere RX12) (hret : mRi p l e ({ frames := 0, cells := 0, slots := 0, locals := 0 } : Room) s m args below meth c Q cX12_isNameThere D cy ci h A0 .boolean o) {self5 : Int32 → Int32 → Int32 → Int32 → (Nat → Int32) → (Nat → Nat → Int32) → Option (Int32 × MS)} (hself5 : ∀ (x1 : Int32) (x2 : Int32) (x3 : Int32) (x4 : Int32) (I : Nat → Int32) (A : Nat → Nat → Int32) (H : Heap) (locs : List Loc) (ls : Array Slot), self5 x1 x2 x3 x4 I A = some o → mH D cy ci h A0 s H locs I A → lv_has ls 7 [(0, .ref (h 0)), (1, .int x1), (2, .int x2), (3, .int x3), (4, .int x4)] → W p l e ({ frames := 0, cells := 0, slots := 0, locals := 0 } : Room) s m args below meth c H locs 0 0 Q (F0 m 5 ls [])) {x1 : Int32} {x2 : Int32} {x4 : Int32} {I : Nat → Int32} {A : Nat → Nat → Int32} {H : Heap} {locs : List Loc} {ls : Array Slot} (hf : f_isNameThere_128 self5 x1 x2 x4 I A = some o) (hM : mH D cy ci h A0 s H locs I A) (hl : lv_has ls 7 [(0, .ref (h 0)), (1, .int x1), (2, .int x2), (4, .int x4)]) : W p l e ({ frames := 0, cells := 0, slots := 0, locals := 0 } : Room) s m args below meth c H locs 0 0 Q (F0 m 128 ls []) := by
  obtain ⟨hx, hb, hml, hown, hts⟩ := id X
  unfold f_isNameThere_128 at hf
  refine lv_iconst (v := (1 : Int32)) hx hb dX12_isNameThere_128 (by decide) ?_
  refine lv_goto (tgt := 133) hx hb dX12_isNameThere_129 (by decide) ?_
  exact w_isNameThere_133 X hret hself5 hf hM (lv_sub hl [0, 1, 2, 3] rfl)
noncomputable def f_isNameThere_119 (self5 : Int32 → Int32 → Int32 → Int32 → (Nat → Int32) → (Nat → Nat → Int32) → Option (Int32 × MS)) (x1 : Int32) (x2 : Int32) (x3 : Int32) (x4 : Int32) (x5 : Int32) (I : Nat → Int32) (A : Nat → Nat → Int32) : Option (Int32 × MS) :=
  m_if (x3 = 0) (
  m_if (x5 = 0) (
  f_isNameThere_133 self5 x1 x2 x4 (0 : Int32) I A
  ) (
  f_isNameThere_128 self5 x1 x2 x4 I A
  )
  ) (
  f_isNameThere_128 self5 x1 x2 x4 I A
  )

set_option maxRecDepth 100000 in
set_option maxHeartbeats 4000000 in
theorem w_isNameThere_119 {p : Program} {l : Launch} {e : Env} {s : State} {m : MethodId} {args : Array Value} {below : List Frame} {meth : Method} {c : Code} {Q : State → Prop} {D : va_G} {cy ci : ClassId} {h : Nat → Nat} {A0 : Nat → Prop} {o : Int32 × MS} (X : CallFix p m c cX12_isNameThere 7 s args wsX12_isNameThere RX12) (hret : mRi p l e ({ frames := 0, cells := 0, slots := 0, locals := 0 } : Room) s m args below meth c Q cX12_isNameThere D cy ci h A0 .boolean o) {self5 : Int32 → Int32 → Int32 → Int32 → (Nat → Int32) → (Nat → Nat → Int32) → Option (Int32 × MS)} (hself5 : ∀ (x1 : Int32) (x2 : Int32) (x3 : Int32) (x4 : Int32) (I : Nat → Int32) (A : Nat → Nat → Int32) (H : Heap) (locs : List Loc) (ls : Array Slot), self5 x1 x2 x3 x4 I A = some o → mH D cy ci h A0 s H locs I A → lv_has ls 7 [(0, .ref (h 0)), (1, .int x1), (2, .int x2), (3, .int x3), (4, .int x4)] → W p l e ({ frames := 0, cells := 0, slots := 0, locals := 0 } : Room) s m args below meth c H locs 0 0 Q (F0 m 5 ls [])) {x1 : Int32} {x2 : Int32} {x3 : Int32} {x4 : Int32} {x5 : Int32} {I : Nat → Int32} {A : Nat → Nat → Int32} {H : Heap} {locs : List Loc} {ls : Array Slot} (hf : f_isNameThere_119 self5 x1 x2 x3 x4 x5 I A = some o) (hM : mH D cy ci h A0 s H locs I A) (hl : lv_has ls 7 [(0, .ref (h 0)), (1, .int x1), (2, .int x2), (3, .int x3), (4, .int x4), (5, .int x5)]) : W p l e ({ frames := 0, cells := 0, slots := 0, locals := 0 } : Room) s m args below meth c H locs 0 0 Q (F0 m 119 ls []) := by
  obtain ⟨hx, hb, hml, hown, hts⟩ := id X
  unfold f_isNameThere_119 at hf
  refine lv_iload_n hx hb dX12_isNameThere_119 rfl (lv_at hl 3 rfl) ?_
  refine lv_if_ne (tgt := 128) hx hb dX12_isNameThere_120 (by decide) (fun cc1 => ?_) (fun cc1 => ?_)
  · replace hf := m_ifF hf cc1
    exact w_isNameThere_128 X hret hself5 hf hM (lv_sub hl [0, 1, 2, 4] rfl)
  · replace hf := m_ifT hf cc1
    refine lv_iload hx hb dX12_isNameThere_123 (lv_at hl 5 rfl) ?_
    refine lv_if_eq (tgt := 132) hx hb dX12_isNameThere_125 (by decide) (fun cc1 => ?_) (fun cc1 => ?_)
    · replace hf := m_ifT hf cc1
      refine lv_iconst (v := (0 : Int32)) hx hb dX12_isNameThere_132 (by decide) ?_
      exact w_isNameThere_133 X hret hself5 hf hM (lv_sub hl [0, 1, 2, 4] rfl)
    · replace hf := m_ifF hf cc1
      exact w_isNameThere_128 X hret hself5 hf hM (lv_sub hl [0, 1, 2, 4] rfl)
noncomputable def f_isNameThere_111 (self5 : Int32 → Int32 → Int32 → Int32 → (Nat → Int32) → (Nat → Nat → Int32) → Option (Int32 × MS)) (self47 : Int32 → Int32 → Int32 → Int32 → Int32 → Int32 → (Nat → Int32) → (Nat → Nat → Int32) → Option (Int32 × MS)) (x1 : Int32) (x2 : Int32) (x3 : Int32) (x4 : Int32) (x6 : Int32) (t0 : Int32) (I : Nat → Int32) (A : Nat → Nat → Int32) : Option (Int32 × MS) :=
  m_bnd (x6 + (1 : Int32)) (fun v1 =>
  self47 x1 x2 x3 x4 t0 v1 I A)

set_option maxRecDepth 100000 in
set_option maxHeartbeats 4000000 in
theorem w_isNameThere_111 {p : Program} {l : Launch} {e : Env} {s : State} {m : MethodId} {args : Array Value} {below : List Frame} {meth : Method} {c : Code} {Q : State → Prop} {D : va_G} {cy ci : ClassId} {h : Nat → Nat} {A0 : Nat → Prop} {o : Int32 × MS} (X : CallFix p m c cX12_isNameThere 7 s args wsX12_isNameThere RX12) (hret : mRi p l e ({ frames := 0, cells := 0, slots := 0, locals := 0 } : Room) s m args below meth c Q cX12_isNameThere D cy ci h A0 .boolean o) {self5 : Int32 → Int32 → Int32 → Int32 → (Nat → Int32) → (Nat → Nat → Int32) → Option (Int32 × MS)} (hself5 : ∀ (x1 : Int32) (x2 : Int32) (x3 : Int32) (x4 : Int32) (I : Nat → Int32) (A : Nat → Nat → Int32) (H : Heap) (locs : List Loc) (ls : Array Slot), self5 x1 x2 x3 x4 I A = some o → mH D cy ci h A0 s H locs I A → lv_has ls 7 [(0, .ref (h 0)), (1, .int x1), (2, .int x2), (3, .int x3), (4, .int x4)] → W p l e ({ frames := 0, cells := 0, slots := 0, locals := 0 } : Room) s m args below meth c H locs 0 0 Q (F0 m 5 ls [])) {self47 : Int32 → Int32 → Int32 → Int32 → Int32 → Int32 → (Nat → Int32) → (Nat → Nat → Int32) → Option (Int32 × MS)} (hself47 : ∀ (x1 : Int32) (x2 : Int32) (x3 : Int32) (x4 : Int32) (x5 : Int32) (x6 : Int32) (I : Nat → Int32) (A : Nat → Nat → Int32) (H : Heap) (locs : List Loc) (ls : Array Slot), self47 x1 x2 x3 x4 x5 x6 I A = some o → mH D cy ci h A0 s H locs I A → lv_has ls 7 [(0, .ref (h 0)), (1, .int x1), (2, .int x2), (3, .int x3), (4, .int x4), (5, .int x5), (6, .int x6)] → W p l e ({ frames := 0, cells := 0, slots := 0, locals := 0 } : Room) s m args below meth c H locs 0 0 Q (F0 m 47 ls [])) {x1 : Int32} {x2 : Int32} {x3 : Int32} {x4 : Int32} {x6 : Int32} {t0 : Int32} {I : Nat → Int32} {A : Nat → Nat → Int32} {H : Heap} {locs : List Loc} {ls : Array Slot} (hf : f_isNameThere_111 self5 self47 x1 x2 x3 x4 x6 t0 I A = some o) (hM : mH D cy ci h A0 s H locs I A) (hl : lv_has ls 7 [(0, .ref (h 0)), (1, .int x1), (2, .int x2), (3, .int x3), (4, .int x4), (6, .int x6)]) : W p l e ({ frames := 0, cells := 0, slots := 0, locals := 0 } : Room) s m args below meth c H locs 0 0 Q (F0 m 111 ls [.int t0]) := by
  obtain ⟨hx, hb, hml, hown, hts⟩ := id X
  unfold f_isNameThere_111 at hf
  refine lv_istore (lv' := [(5, .int t0), (0, .ref (h 0)), (1, .int x1), (2, .int x2), (3, .int x3), (4, .int x4), (6, .int x6)]) hx hb dX12_isNameThere_111 hl (by decide) rfl (fun ls hl => ?_)
  obtain ⟨v1, ev, hf⟩ := m_bndE hf
  refine lv_iinc (v := v1) (lv' := [(6, .int v1), (5, .int t0), (0, .ref (h 0)), (1, .int x1), (2, .int x2), (3, .int x3), (4, .int x4)]) hx hb dX12_isNameThere_113 hl (k := 6) rfl (by rw [ev]; rfl) (by decide) rfl (fun ls hl => ?_)
  clear ev
  refine lv_goto (tgt := 47) hx hb dX12_isNameThere_116 (by decide) ?_
  exact hself47 _ _ _ _ _ _ _ _ _ _ _ hf hM (lv_sub hl [2, 3, 4, 5, 6, 1, 0] rfl)
noncomputable def f_isNameThere_47s (self5 : Int32 → Int32 → Int32 → Int32 → (Nat → Int32) → (Nat → Nat → Int32) → Option (Int32 × MS)) (self47 : Int32 → Int32 → Int32 → Int32 → Int32 → Int32 → (Nat → Int32) → (Nat → Nat → Int32) → Option (Int32 × MS)) (x1 : Int32) (x2 : Int32) (x3 : Int32) (x4 : Int32) (x5 : Int32) (x6 : Int32) (I : Nat → Int32) (A : Nat → Nat → Int32) : Option (Int32 × MS) :=
  m_bnd ((8 : Int32) * x1) (fun v1 =>
  m_bnd (v1 + x2) (fun v2 =>
  m_chk (¬ (v2 < 0 ∨ 16 ≤ (v2).toNatClampNeg)) (
  m_bnd (A 19 (v2).toNatClampNeg) (fun v3 =>
  m_if (v3 ≤ x6) (
  f_isNameThere_119 self5 x1 x2 x3 x4 x5 I A
  ) (
  m_if (x5 = 0) (
  f_isNameThere_119 self5 x1 x2 x3 x4 x5 I A
  ) (
  m_bnd ((96 : Int32) * x1) (fun v4 =>
  m_bnd ((12 : Int32) * x4) (fun v5 =>
  m_bnd (v4 + v5) (fun v6 =>
  m_bnd (v6 + x6) (fun v7 =>
  m_chk (¬ (v7 < 0 ∨ 192 ≤ (v7).toNatClampNeg)) (
  m_bnd (A 20 (v7).toNatClampNeg) (fun v8 =>
  m_bnd ((96 : Int32) * x1) (fun v9 =>
  m_bnd ((12 : Int32) * x2) (fun v10 =>
  m_bnd (v9 + v10) (fun v11 =>
  m_bnd (v11 + x6) (fun v12 =>
  m_chk (¬ (v12 < 0 ∨ 192 ≤ (v12).toNatClampNeg)) (
  m_bnd (A 20 (v12).toNatClampNeg) (fun v13 =>
  m_if (v8 = v13) (
  f_isNameThere_111 self5 self47 x1 x2 x3 x4 x6 (1 : Int32) I A
  ) (
  f_isNameThere_111 self5 self47 x1 x2 x3 x4 x6 (0 : Int32) I A
  )))))))))))))
  )
  )))))

set_option maxRecDepth 100000 in
set_option maxHeartbeats 4000000 in
theorem ws_isNameThere_47 {p : Program} {l : Launch} {e : Env} {s : State} {m : MethodId} {args : Array Value} {below : List Frame} {meth : Method} {c : Code} {Q : State → Prop} {D : va_G} {cy ci : ClassId} {h : Nat → Nat} {A0 : Nat → Prop} {o : Int32 × MS} (X : CallFix p m c cX12_isNameThere 7 s args wsX12_isNameThere RX12) (hret : mRi p l e ({ frames := 0, cells := 0, slots := 0, locals := 0 } : Room) s m args below meth c Q cX12_isNameThere D cy ci h A0 .boolean o) {self5 : Int32 → Int32 → Int32 → Int32 → (Nat → Int32) → (Nat → Nat → Int32) → Option (Int32 × MS)} (hself5 : ∀ (x1 : Int32) (x2 : Int32) (x3 : Int32) (x4 : Int32) (I : Nat → Int32) (A : Nat → Nat → Int32) (H : Heap) (locs : List Loc) (ls : Array Slot), self5 x1 x2 x3 x4 I A = some o → mH D cy ci h A0 s H locs I A → lv_has ls 7 [(0, .ref (h 0)), (1, .int x1), (2, .int x2), (3, .int x3), (4, .int x4)] → W p l e ({ frames := 0, cells := 0, slots := 0, locals := 0 } : Room) s m args below meth c H locs 0 0 Q (F0 m 5 ls [])) {self47 : Int32 → Int32 → Int32 → Int32 → Int32 → Int32 → (Nat → Int32) → (Nat → Nat → Int32) → Option (Int32 × MS)} (hself47 : ∀ (x1 : Int32) (x2 : Int32) (x3 : Int32) (x4 : Int32) (x5 : Int32) (x6 : Int32) (I : Nat → Int32) (A : Nat → Nat → Int32) (H : Heap) (locs : List Loc) (ls : Array Slot), self47 x1 x2 x3 x4 x5 x6 I A = some o → mH D cy ci h A0 s H locs I A → lv_has ls 7 [(0, .ref (h 0)), (1, .int x1), (2, .int x2), (3, .int x3), (4, .int x4), (5, .int x5), (6, .int x6)] → W p l e ({ frames := 0, cells := 0, slots := 0, locals := 0 } : Room) s m args below meth c H locs 0 0 Q (F0 m 47 ls [])) {x1 : Int32} {x2 : Int32} {x3 : Int32} {x4 : Int32} {x5 : Int32} {x6 : Int32} {I : Nat → Int32} {A : Nat → Nat → Int32} {H : Heap} {locs : List Loc} {ls : Array Slot} (hf : f_isNameThere_47s self5 self47 x1 x2 x3 x4 x5 x6 I A = some o) (hM : mH D cy ci h A0 s H locs I A) (hl : lv_has ls 7 [(0, .ref (h 0)), (1, .int x1), (2, .int x2), (3, .int x3), (4, .int x4), (5, .int x5), (6, .int x6)]) : W p l e ({ frames := 0, cells := 0, slots := 0, locals := 0 } : Room) s m args below meth c H locs 0 0 Q (F0 m 47 ls []) := by
  obtain ⟨hx, hb, hml, hown, hts⟩ := id X
  unfold f_isNameThere_47s at hf
  refine lv_iload hx hb dX12_isNameThere_47 (lv_at hl 6 rfl) ?_
  refine lv_aload_n hx hb dX12_isNameThere_49 rfl (lv_at hl 0 rfl) ?_
  refine m_get (v := .ref (h 19)) X hw_isNameThere hM 19 (by decide) fl_isNameThere_19 rfl dX12_isNameThere_50 ?_
  refine lv_bipush (v := (8 : Int32)) hx hb dX12_isNameThere_53 (by decide) ?_
  refine lv_iload_n hx hb dX12_isNameThere_55 rfl (lv_at hl 1 rfl) ?_
  refine lv_imul hx hb dX12_isNameThere_56 ?_
  obtain ⟨v1, ev, hf⟩ := m_bndE hf
  refine m_top ev ?_
  clear ev
  refine lv_iload_n hx hb dX12_isNameThere_57 rfl (lv_at hl 2 rfl) ?_
  refine lv_iadd hx hb dX12_isNameThere_58 ?_
  obtain ⟨v2, ev, hf⟩ := m_bndE hf
  refine m_top ev ?_
  clear ev
  obtain ⟨cd, hf⟩ := m_chkE hf
  refine m_iald X hM 19 15 16 rfl cd dX12_isNameThere_59 ?_
  clear cd
  obtain ⟨v3, ev, hf⟩ := m_bndE hf
  refine m_top ev ?_
  clear ev
  refine lv_icmp_ge (tgt := 119) hx hb dX12_isNameThere_60 (by decide) (fun cc1 => ?_) (fun cc1 => ?_)
  · replace hf := m_ifT hf cc1
    exact w_isNameThere_119 X hret hself5 hf hM (lv_sub hl [0, 1, 2, 3, 4, 5] rfl)
  · replace hf := m_ifF hf cc1
    refine lv_iload hx hb dX12_isNameThere_63 (lv_at hl 5 rfl) ?_
    refine lv_if_eq (tgt := 119) hx hb dX12_isNameThere_65 (by decide) (fun cc1 => ?_) (fun cc1 => ?_)
    · replace hf := m_ifT hf cc1
      exact w_isNameThere_119 X hret hself5 hf hM (lv_sub hl [0, 1, 2, 3, 4, 5] rfl)
    · replace hf := m_ifF hf cc1
      refine lv_aload_n hx hb dX12_isNameThere_68 rfl (lv_at hl 0 rfl) ?_
      refine m_get (v := .ref (h 20)) X hw_isNameThere hM 20 (by decide) fl_isNameThere_20 rfl dX12_isNameThere_69 ?_
      refine lv_bipush (v := (96 : Int32)) hx hb dX12_isNameThere_72 (by decide) ?_
      refine lv_iload_n hx hb dX12_isNameThere_74 rfl (lv_at hl 1 rfl) ?_
      refine lv_imul hx hb dX12_isNameThere_75 ?_
      obtain ⟨v4, ev, hf⟩ := m_bndE hf
      refine m_top ev ?_
      clear ev
      refine lv_bipush (v := (12 : Int32)) hx hb dX12_isNameThere_76 (by decide) ?_
      refine lv_iload hx hb dX12_isNameThere_78 (lv_at hl 4 rfl) ?_
      refine lv_imul hx hb dX12_isNameThere_80 ?_
      obtain ⟨v5, ev, hf⟩ := m_bndE hf
      refine m_top ev ?_
      clear ev
      refine lv_iadd hx hb dX12_isNameThere_81 ?_
      obtain ⟨v6, ev, hf⟩ := m_bndE hf
      refine m_top ev ?_
      clear ev
      refine lv_iload hx hb dX12_isNameThere_82 (lv_at hl 6 rfl) ?_
      refine lv_iadd hx hb dX12_isNameThere_84 ?_
      obtain ⟨v7, ev, hf⟩ := m_bndE hf
      refine m_top ev ?_
      clear ev
      obtain ⟨cd, hf⟩ := m_chkE hf
      refine m_cald X hM 20 16 192 rfl cd dX12_isNameThere_85 ?_
      clear cd
      obtain ⟨v8, ev, hf⟩ := m_bndE hf
      refine m_top ev ?_
      clear ev
      refine lv_aload_n hx hb dX12_isNameThere_86 rfl (lv_at hl 0 rfl) ?_
      refine m_get (v := .ref (h 20)) X hw_isNameThere hM 20 (by decide) fl_isNameThere_20 rfl dX12_isNameThere_87 ?_
      refine lv_bipush (v := (96 : Int32)) hx hb dX12_isNameThere_90 (by decide) ?_
      refine lv_iload_n hx hb dX12_isNameThere_92 rfl (lv_at hl 1 rfl) ?_
      refine lv_imul hx hb dX12_isNameThere_93 ?_
      obtain ⟨v9, ev, hf⟩ := m_bndE hf
      refine m_top ev ?_
      clear ev
      refine lv_bipush (v := (12 : Int32)) hx hb dX12_isNameThere_94 (by decide) ?_
      refine lv_iload_n hx hb dX12_isNameThere_96 rfl (lv_at hl 2 rfl) ?_
      refine lv_imul hx hb dX12_isNameThere_97 ?_
      obtain ⟨v10, ev, hf⟩ := m_bndE hf
      refine m_top ev ?_
      clear ev
      refine lv_iadd hx hb dX12_isNameThere_98 ?_
      obtain ⟨v11, ev, hf⟩ := m_bndE hf
      refine m_top ev ?_
      clear ev
      refine lv_iload hx hb dX12_isNameThere_99 (lv_at hl 6 rfl) ?_
      refine lv_iadd hx hb dX12_isNameThere_101 ?_
      obtain ⟨v12, ev, hf⟩ := m_bndE hf
      refine m_top ev ?_
      clear ev
      obtain ⟨cd, hf⟩ := m_chkE hf
      refine m_cald X hM 20 16 192 rfl cd dX12_isNameThere_102 ?_
      clear cd
      obtain ⟨v13, ev, hf⟩ := m_bndE hf
      refine m_top ev ?_
      clear ev
      refine lv_icmp_ne (tgt := 110) hx hb dX12_isNameThere_103 (by decide) (fun cc1 => ?_) (fun cc1 => ?_)
      · replace hf := m_ifF hf cc1
        refine lv_iconst (v := (0 : Int32)) hx hb dX12_isNameThere_110 (by decide) ?_
        exact w_isNameThere_111 X hret hself5 hself47 hf hM (lv_sub hl [0, 1, 2, 3, 4, 6] rfl)
      · replace hf := m_ifT hf cc1
        refine lv_iconst (v := (1 : Int32)) hx hb dX12_isNameThere_106 (by decide) ?_
        refine lv_goto (tgt := 111) hx hb dX12_isNameThere_107 (by decide) ?_
        exact w_isNameThere_111 X hret hself5 hself47 hf hM (lv_sub hl [0, 1, 2, 3, 4, 6] rfl)
noncomputable def f_isNameThere_47 (self5 : Int32 → Int32 → Int32 → Int32 → (Nat → Int32) → (Nat → Nat → Int32) → Option (Int32 × MS)) : Nat → Int32 → Int32 → Int32 → Int32 → Int32 → Int32 → (Nat → Int32) → (Nat → Nat → Int32) → Option (Int32 × MS)
  | 0 => fun _ _ _ _ _ _ _ _ => none
  | n + 1 => f_isNameThere_47s self5 (f_isNameThere_47 self5 n)
theorem w_isNameThere_47 {p : Program} {l : Launch} {e : Env} {s : State} {m : MethodId} {args : Array Value} {below : List Frame} {meth : Method} {c : Code} {Q : State → Prop} {D : va_G} {cy ci : ClassId} {h : Nat → Nat} {A0 : Nat → Prop} {o : Int32 × MS} (X : CallFix p m c cX12_isNameThere 7 s args wsX12_isNameThere RX12) (hret : mRi p l e ({ frames := 0, cells := 0, slots := 0, locals := 0 } : Room) s m args below meth c Q cX12_isNameThere D cy ci h A0 .boolean o) {self5 : Int32 → Int32 → Int32 → Int32 → (Nat → Int32) → (Nat → Nat → Int32) → Option (Int32 × MS)} (hself5 : ∀ (x1 : Int32) (x2 : Int32) (x3 : Int32) (x4 : Int32) (I : Nat → Int32) (A : Nat → Nat → Int32) (H : Heap) (locs : List Loc) (ls : Array Slot), self5 x1 x2 x3 x4 I A = some o → mH D cy ci h A0 s H locs I A → lv_has ls 7 [(0, .ref (h 0)), (1, .int x1), (2, .int x2), (3, .int x3), (4, .int x4)] → W p l e ({ frames := 0, cells := 0, slots := 0, locals := 0 } : Room) s m args below meth c H locs 0 0 Q (F0 m 5 ls [])) (n : Nat) : ∀ (x1 : Int32) (x2 : Int32) (x3 : Int32) (x4 : Int32) (x5 : Int32) (x6 : Int32) (I : Nat → Int32) (A : Nat → Nat → Int32) (H : Heap) (locs : List Loc) (ls : Array Slot), f_isNameThere_47 self5 n x1 x2 x3 x4 x5 x6 I A = some o → mH D cy ci h A0 s H locs I A → lv_has ls 7 [(0, .ref (h 0)), (1, .int x1), (2, .int x2), (3, .int x3), (4, .int x4), (5, .int x5), (6, .int x6)] → W p l e ({ frames := 0, cells := 0, slots := 0, locals := 0 } : Room) s m args below meth c H locs 0 0 Q (F0 m 47 ls []) := by
  induction n with
  | zero => intro x1 x2 x3 x4 x5 x6 I A H locs ls hf; cases hf
  | succ n ih => intro x1 x2 x3 x4 x5 x6 I A H locs ls hf hM hl; exact ws_isNameThere_47 X hret hself5 (self47 := f_isNameThere_47 self5 n) ih hf hM hl
noncomputable def f_isNameThere_42 (self5 : Int32 → Int32 → Int32 → Int32 → (Nat → Int32) → (Nat → Nat → Int32) → Option (Int32 × MS)) (x1 : Int32) (x2 : Int32) (x3 : Int32) (x4 : Int32) (t0 : Int32) (I : Nat → Int32) (A : Nat → Nat → Int32) : Option (Int32 × MS) :=
  f_isNameThere_47 self5 mFuel x1 x2 x3 x4 t0 (0 : Int32) I A

set_option maxRecDepth 100000 in
set_option maxHeartbeats 4000000 in
theorem w_isNameThere_42 {p : Program} {l : Launch} {e : Env} {s : State} {m : MethodId} {args : Array Value} {below : List Frame} {meth : Method} {c : Code} {Q : State → Prop} {D : va_G} {cy ci : ClassId} {h : Nat → Nat} {A0 : Nat → Prop} {o : Int32 × MS} (X : CallFix p m c cX12_isNameThere 7 s args wsX12_isNameThere RX12) (hret : mRi p l e ({ frames := 0, cells := 0, slots := 0, locals := 0 } : Room) s m args below meth c Q cX12_isNameThere D cy ci h A0 .boolean o) {self5 : Int32 → Int32 → Int32 → Int32 → (Nat → Int32) → (Nat → Nat → Int32) → Option (Int32 × MS)} (hself5 : ∀ (x1 : Int32) (x2 : Int32) (x3 : Int32) (x4 : Int32) (I : Nat → Int32) (A : Nat → Nat → Int32) (H : Heap) (locs : List Loc) (ls : Array Slot), self5 x1 x2 x3 x4 I A = some o → mH D cy ci h A0 s H locs I A → lv_has ls 7 [(0, .ref (h 0)), (1, .int x1), (2, .int x2), (3, .int x3), (4, .int x4)] → W p l e ({ frames := 0, cells := 0, slots := 0, locals := 0 } : Room) s m args below meth c H locs 0 0 Q (F0 m 5 ls [])) {x1 : Int32} {x2 : Int32} {x3 : Int32} {x4 : Int32} {t0 : Int32} {I : Nat → Int32} {A : Nat → Nat → Int32} {H : Heap} {locs : List Loc} {ls : Array Slot} (hf : f_isNameThere_42 self5 x1 x2 x3 x4 t0 I A = some o) (hM : mH D cy ci h A0 s H locs I A) (hl : lv_has ls 7 [(0, .ref (h 0)), (1, .int x1), (2, .int x2), (3, .int x3), (4, .int x4)]) : W p l e ({ frames := 0, cells := 0, slots := 0, locals := 0 } : Room) s m args below meth c H locs 0 0 Q (F0 m 42 ls [.int t0]) := by
  obtain ⟨hx, hb, hml, hown, hts⟩ := id X
  unfold f_isNameThere_42 at hf
  refine lv_istore (lv' := [(5, .int t0), (0, .ref (h 0)), (1, .int x1), (2, .int x2), (3, .int x3), (4, .int x4)]) hx hb dX12_isNameThere_42 hl (by decide) rfl (fun ls hl => ?_)
  refine lv_iconst (v := (0 : Int32)) hx hb dX12_isNameThere_44 (by decide) ?_
  refine lv_istore (lv' := [(6, .int (0 : Int32)), (5, .int t0), (0, .ref (h 0)), (1, .int x1), (2, .int x2), (3, .int x3), (4, .int x4)]) hx hb dX12_isNameThere_45 hl (by decide) rfl (fun ls hl => ?_)
  exact w_isNameThere_47 X hret hself5 _ _ _ _ _ _ _ _ _ _ _ _ hf hM (lv_sub hl [2, 3, 4, 5, 6, 1, 0] rfl)
noncomputable def f_isNameThere_5s (self5 : Int32 → Int32 → Int32 → Int32 → (Nat → Int32) → (Nat → Nat → Int32) → Option (Int32 × MS)) (x1 : Int32) (x2 : Int32) (x3 : Int32) (x4 : Int32) (I : Nat → Int32) (A : Nat → Nat → Int32) : Option (Int32 × MS) :=
  m_if (x2 ≤ x4) (
  m_chk (vp_nar .boolean x3 = x3) (some (x3, (I, A)))
  ) (
  m_bnd ((8 : Int32) * x1) (fun v1 =>
  m_bnd (v1 + x4) (fun v2 =>
  m_chk (¬ (v2 < 0 ∨ 16 ≤ (v2).toNatClampNeg)) (
  m_bnd (A 19 (v2).toNatClampNeg) (fun v3 =>
  m_bnd ((8 : Int32) * x1) (fun v4 =>
  m_bnd (v4 + x2) (fun v5 =>
  m_chk (¬ (v5 < 0 ∨ 16 ≤ (v5).toNatClampNeg)) (
  m_bnd (A 19 (v5).toNatClampNeg) (fun v6 =>
  m_if (v3 = v6) (
  f_isNameThere_42 self5 x1 x2 x3 x4 (1 : Int32) I A
  ) (
  f_isNameThere_42 self5 x1 x2 x3 x4 (0 : Int32) I A
  )))))))))
  )

set_option maxRecDepth 100000 in
set_option maxHeartbeats 4000000 in
theorem ws_isNameThere_5 {p : Program} {l : Launch} {e : Env} {s : State} {m : MethodId} {args : Array Value} {below : List Frame} {meth : Method} {c : Code} {Q : State → Prop} {D : va_G} {cy ci : ClassId} {h : Nat → Nat} {A0 : Nat → Prop} {o : Int32 × MS} (X : CallFix p m c cX12_isNameThere 7 s args wsX12_isNameThere RX12) (hret : mRi p l e ({ frames := 0, cells := 0, slots := 0, locals := 0 } : Room) s m args below meth c Q cX12_isNameThere D cy ci h A0 .boolean o) {self5 : Int32 → Int32 → Int32 → Int32 → (Nat → Int32) → (Nat → Nat → Int32) → Option (Int32 × MS)} (hself5 : ∀ (x1 : Int32) (x2 : Int32) (x3 : Int32) (x4 : Int32) (I : Nat → Int32) (A : Nat → Nat → Int32) (H : Heap) (locs : List Loc) (ls : Array Slot), self5 x1 x2 x3 x4 I A = some o → mH D cy ci h A0 s H locs I A → lv_has ls 7 [(0, .ref (h 0)), (1, .int x1), (2, .int x2), (3, .int x3), (4, .int x4)] → W p l e ({ frames := 0, cells := 0, slots := 0, locals := 0 } : Room) s m args below meth c H locs 0 0 Q (F0 m 5 ls [])) {x1 : Int32} {x2 : Int32} {x3 : Int32} {x4 : Int32} {I : Nat → Int32} {A : Nat → Nat → Int32} {H : Heap} {locs : List Loc} {ls : Array Slot} (hf : f_isNameThere_5s self5 x1 x2 x3 x4 I A = some o) (hM : mH D cy ci h A0 s H locs I A) (hl : lv_has ls 7 [(0, .ref (h 0)), (1, .int x1), (2, .int x2), (3, .int x3), (4, .int x4)]) : W p l e ({ frames := 0, cells := 0, slots := 0, locals := 0 } : Room) s m args below meth c H locs 0 0 Q (F0 m 5 ls []) := by
  obtain ⟨hx, hb, hml, hown, hts⟩ := id X
  unfold f_isNameThere_5s at hf
  refine lv_iload hx hb dX12_isNameThere_5 (lv_at hl 4 rfl) ?_
  refine lv_iload_n hx hb dX12_isNameThere_7 rfl (lv_at hl 2 rfl) ?_
  refine lv_icmp_ge (tgt := 140) hx hb dX12_isNameThere_8 (by decide) (fun cc1 => ?_) (fun cc1 => ?_)
  · replace hf := m_ifT hf cc1
    refine lv_iload_n hx hb dX12_isNameThere_140 rfl (lv_at hl 3 rfl) ?_
    obtain ⟨cd, hf⟩ := m_chkE hf
    cases hf
    exact hret H locs _ ls hM (m_nb cd) dX12_isNameThere_141
  · replace hf := m_ifF hf cc1
    refine lv_aload_n hx hb dX12_isNameThere_11 rfl (lv_at hl 0 rfl) ?_
    refine m_get (v := .ref (h 19)) X hw_isNameThere hM 19 (by decide) fl_isNameThere_19 rfl dX12_isNameThere_12 ?_
    refine lv_bipush (v := (8 : Int32)) hx hb dX12_isNameThere_15 (by decide) ?_
    refine lv_iload_n hx hb dX12_isNameThere_17 rfl (lv_at hl 1 rfl) ?_
    refine lv_imul hx hb dX12_isNameThere_18 ?_
    obtain ⟨v1, ev, hf⟩ := m_bndE hf
    refine m_top ev ?_
    clear ev
    refine lv_iload hx hb dX12_isNameThere_19 (lv_at hl 4 rfl) ?_
    refine lv_iadd hx hb dX12_isNameThere_21 ?_
    obtain ⟨v2, ev, hf⟩ := m_bndE hf
    refine m_top ev ?_
    clear ev
    obtain ⟨cd, hf⟩ := m_chkE hf
    refine m_iald X hM 19 15 16 rfl cd dX12_isNameThere_22 ?_
    clear cd
    obtain ⟨v3, ev, hf⟩ := m_bndE hf
    refine m_top ev ?_
    clear ev
    refine lv_aload_n hx hb dX12_isNameThere_23 rfl (lv_at hl 0 rfl) ?_
    refine m_get (v := .ref (h 19)) X hw_isNameThere hM 19 (by decide) fl_isNameThere_19 rfl dX12_isNameThere_24 ?_
    refine lv_bipush (v := (8 : Int32)) hx hb dX12_isNameThere_27 (by decide) ?_
    refine lv_iload_n hx hb dX12_isNameThere_29 rfl (lv_at hl 1 rfl) ?_
    refine lv_imul hx hb dX12_isNameThere_30 ?_
    obtain ⟨v4, ev, hf⟩ := m_bndE hf
    refine m_top ev ?_
    clear ev
    refine lv_iload_n hx hb dX12_isNameThere_31 rfl (lv_at hl 2 rfl) ?_
    refine lv_iadd hx hb dX12_isNameThere_32 ?_
    obtain ⟨v5, ev, hf⟩ := m_bndE hf
    refine m_top ev ?_
    clear ev
    obtain ⟨cd, hf⟩ := m_chkE hf
    refine m_iald X hM 19 15 16 rfl cd dX12_isNameThere_33 ?_
    clear cd
    obtain ⟨v6, ev, hf⟩ := m_bndE hf
    refine m_top ev ?_
    clear ev
    refine lv_icmp_ne (tgt := 41) hx hb dX12_isNameThere_34 (by decide) (fun cc1 => ?_) (fun cc1 => ?_)
    · replace hf := m_ifF hf cc1
      refine lv_iconst (v := (0 : Int32)) hx hb dX12_isNameThere_41 (by decide) ?_
      exact w_isNameThere_42 X hret hself5 hf hM (lv_sub hl [0, 1, 2, 3, 4] rfl)
    · replace hf := m_ifT hf cc1
      refine lv_iconst (v := (1 : Int32)) hx hb dX12_isNameThere_37 (by decide) ?_
      refine lv_goto (tgt := 42) hx hb dX12_isNameThere_38 (by decide) ?_
      exact w_isNameThere_42 X hret hself5 hf hM (lv_sub hl [0, 1, 2, 3, 4] rfl)
noncomputable def f_isNameThere_5 : Nat → Int32 → Int32 → Int32 → Int32 → (Nat → Int32) → (Nat → Nat → Int32) → Option (Int32 × MS)
  | 0 => fun _ _ _ _ _ _ => none
  | n + 1 => f_isNameThere_5s (f_isNameThere_5 n)
theorem w_isNameThere_5 {p : Program} {l : Launch} {e : Env} {s : State} {m : MethodId} {args : Array Value} {below : List Frame} {meth : Method} {c : Code} {Q : State → Prop} {D : va_G} {cy ci : ClassId} {h : Nat → Nat} {A0 : Nat → Prop} {o : Int32 × MS} (X : CallFix p m c cX12_isNameThere 7 s args wsX12_isNameThere RX12) (hret : mRi p l e ({ frames := 0, cells := 0, slots := 0, locals := 0 } : Room) s m args below meth c Q cX12_isNameThere D cy ci h A0 .boolean o) (n : Nat) : ∀ (x1 : Int32) (x2 : Int32) (x3 : Int32) (x4 : Int32) (I : Nat → Int32) (A : Nat → Nat → Int32) (H : Heap) (locs : List Loc) (ls : Array Slot), f_isNameThere_5 n x1 x2 x3 x4 I A = some o → mH D cy ci h A0 s H locs I A → lv_has ls 7 [(0, .ref (h 0)), (1, .int x1), (2, .int x2), (3, .int x3), (4, .int x4)] → W p l e ({ frames := 0, cells := 0, slots := 0, locals := 0 } : Room) s m args below meth c H locs 0 0 Q (F0 m 5 ls []) := by
  induction n with
  | zero => intro x1 x2 x3 x4 I A H locs ls hf; cases hf
  | succ n ih => intro x1 x2 x3 x4 I A H locs ls hf hM hl; exact ws_isNameThere_5 X hret (self5 := f_isNameThere_5 n) ih hf hM hl
noncomputable def f_isNameThere_0 (x1 : Int32) (x2 : Int32) (I : Nat → Int32) (A : Nat → Nat → Int32) : Option (Int32 × MS) :=
  f_isNameThere_5 mFuel x1 x2 (0 : Int32) (0 : Int32) I A

set_option maxRecDepth 100000 in
set_option maxHeartbeats 4000000 in
theorem w_isNameThere_0 {p : Program} {l : Launch} {e : Env} {s : State} {m : MethodId} {args : Array Value} {below : List Frame} {meth : Method} {c : Code} {Q : State → Prop} {D : va_G} {cy ci : ClassId} {h : Nat → Nat} {A0 : Nat → Prop} {o : Int32 × MS} (X : CallFix p m c cX12_isNameThere 7 s args wsX12_isNameThere RX12) (hret : mRi p l e ({ frames := 0, cells := 0, slots := 0, locals := 0 } : Room) s m args below meth c Q cX12_isNameThere D cy ci h A0 .boolean o) {x1 : Int32} {x2 : Int32} {I : Nat → Int32} {A : Nat → Nat → Int32} {H : Heap} {locs : List Loc} {ls : Array Slot} (hf : f_isNameThere_0 x1 x2 I A = some o) (hM : mH D cy ci h A0 s H locs I A) (hl : lv_has ls 7 [(0, .ref (h 0)), (1, .int x1), (2, .int x2)]) : W p l e ({ frames := 0, cells := 0, slots := 0, locals := 0 } : Room) s m args below meth c H locs 0 0 Q (F0 m 0 ls []) := by
  obtain ⟨hx, hb, hml, hown, hts⟩ := id X
  unfold f_isNameThere_0 at hf
  refine lv_iconst (v := (0 : Int32)) hx hb dX12_isNameThere_0 (by decide) ?_
  refine lv_istore_n (lv' := [(3, .int (0 : Int32)), (0, .ref (h 0)), (1, .int x1), (2, .int x2)]) hx hb dX12_isNameThere_1 rfl hl (by decide) rfl (fun ls hl => ?_)
  refine lv_iconst (v := (0 : Int32)) hx hb dX12_isNameThere_2 (by decide) ?_
  refine lv_istore (lv' := [(4, .int (0 : Int32)), (3, .int (0 : Int32)), (0, .ref (h 0)), (1, .int x1), (2, .int x2)]) hx hb dX12_isNameThere_3 hl (by decide) rfl (fun ls hl => ?_)
  exact w_isNameThere_5 X hret _ _ _ _ _ _ _ _ _ _ hf hM (lv_sub hl [2, 3, 4, 1, 0] rfl)
noncomputable def f_isNameThere (x1 : Int32) (x2 : Int32) (I : Nat → Int32) (A : Nat → Nat → Int32) : Option (Int32 × MS) := f_isNameThere_0 x1 x2 I A
theorem c_isNameThere {l : Launch} {D : va_G} {cy ci : ClassId} {h : Nat → Nat} {x1 : Int32} {x2 : Int32} {I : Nat → Int32} {A : Nat → Nat → Int32} {o : Int32 × MS} (hf : f_isNameThere x1 x2 I A = some o) : mMi l yX12_isNameThere wsX12_isNameThere ({ frames := 0, cells := 0, slots := 0, locals := 0 } : Room) [.ref (h 0), .int x1, .int x2] D cy ci h I A o :=
  m_entryI (cc := cX12_isNameThere) (maxL := 7) (by decide) rfl rfl (Nat.le_of_ble_eq_true rfl) (fun p e s m args below meth c A0 Q H locs ls X hret hM hl => w_isNameThere_0 X hret hf hM (lv_sub hl [0, 1, 2] rfl))
end
