theorem hw_isClear : ∀ w ∈ wsX120, w ∈ wsX12_isClear := by decide +kernel
theorem fl_isClear_24 : Cond.fieldLink RX12 70 "MoveTextsModel" "men" "[I" ∈ wsX12_isClear := by decide +kernel
theorem hd_isClear : yX12_isClear.cls = RX12 ∧ yX12_isClear.cls ≠ "java/lang/invoke/MethodHandle" ∧ yX12_isClear.cls ≠ "java/lang/invoke/VarHandle" ∧ (parseMethodDescriptor yX12_isClear.desc).map (fun d => d.parameters.length) = some 2 := by decide +kernel
def f_isClear_30 (self5 : Int32 → Int32 → Int32 → (Nat → Int32) → (Nat → Nat → Int32) → Option (Int32 × MS)) (x2 : Int32) (x4 : Int32) (t0 : Int32) (I : Nat → Int32) (A : Nat → Nat → Int32) : Option (Int32 × MS) :=
  m_bnd (x4 + (1 : Int32)) (fun v1 =>
  self5 x2 t0 v1 I A)

set_option maxRecDepth 100000 in
set_option maxHeartbeats 4000000 in
theorem w_isClear_30 {p : Program} {l : Launch} {e : Env} {s : State} {m : MethodId} {args : Array Value} {below : List Frame} {meth : Method} {c : Code} {Q : State → Prop} {D : va_G} {cy ci : ClassId} {h : Nat → Nat} {A0 : Nat → Prop} {o : Int32 × MS} (X : CallFix p m c cX12_isClear 5 s args wsX12_isClear RX12) (hret : mRi p l e ({ frames := 0, cells := 0, slots := 0, locals := 0 } : Room) s m args below meth c Q cX12_isClear D cy ci h A0 .boolean o) {self5 : Int32 → Int32 → Int32 → (Nat → Int32) → (Nat → Nat → Int32) → Option (Int32 × MS)} (hself5 : ∀ (x2 : Int32) (x3 : Int32) (x4 : Int32) (I : Nat → Int32) (A : Nat → Nat → Int32) (H : Heap) (locs : List Loc) (ls : Array Slot), self5 x2 x3 x4 I A = some o → mH D cy ci h A0 s H locs I A → lv_has ls 5 [(0, .ref (h 0)), (2, .int x2), (3, .int x3), (4, .int x4)] → W p l e ({ frames := 0, cells := 0, slots := 0, locals := 0 } : Room) s m args below meth c H locs 0 0 Q (F0 m 5 ls [])) {x2 : Int32} {x4 : Int32} {t0 : Int32} {I : Nat → Int32} {A : Nat → Nat → Int32} {H : Heap} {locs : List Loc} {ls : Array Slot} (hf : f_isClear_30 self5 x2 x4 t0 I A = some o) (hM : mH D cy ci h A0 s H locs I A) (hl : lv_has ls 5 [(0, .ref (h 0)), (2, .int x2), (4, .int x4)]) : W p l e ({ frames := 0, cells := 0, slots := 0, locals := 0 } : Room) s m args below meth c H locs 0 0 Q (F0 m 30 ls [.int t0]) := by
  obtain ⟨hx, hb, hml, hown, hts⟩ := id X
  unfold f_isClear_30 at hf
  refine lv_istore_n (lv' := [(3, .int t0), (0, .ref (h 0)), (2, .int x2), (4, .int x4)]) hx hb dX12_isClear_30 rfl hl (by decide) rfl (fun ls hl => ?_)
  obtain ⟨v1, ev, hf⟩ := m_bndE hf
  refine lv_iinc (v := v1) (lv' := [(4, .int v1), (3, .int t0), (0, .ref (h 0)), (2, .int x2)]) hx hb dX12_isClear_31 hl (k := 3) rfl (by rw [ev]; rfl) (by decide) rfl (fun ls hl => ?_)
  clear ev
  refine lv_goto (tgt := 5) hx hb dX12_isClear_34 (by decide) ?_
  exact hself5 _ _ _ _ _ _ _ _ hf hM (lv_sub hl [2, 3, 1, 0] rfl)
def f_isClear_29 (self5 : Int32 → Int32 → Int32 → (Nat → Int32) → (Nat → Nat → Int32) → Option (Int32 × MS)) (x2 : Int32) (x4 : Int32) (I : Nat → Int32) (A : Nat → Nat → Int32) : Option (Int32 × MS) :=
  f_isClear_30 self5 x2 x4 (0 : Int32) I A

set_option maxRecDepth 100000 in
set_option maxHeartbeats 4000000 in
theorem w_isClear_29 {p : Program} {l : Launch} {e : Env} {s : State} {m : MethodId} {args : Array Value} {below : List Frame} {meth : Method} {c : Code} {Q : State → Prop} {D : va_G} {cy ci : ClassId} {h : Nat → Nat} {A0 : Nat → Prop} {o : Int32 × MS} (X : CallFix p m c cX12_isClear 5 s args wsX12_isClear RX12) (hret : mRi p l e ({ frames := 0, cells := 0, slots := 0, locals := 0 } : Room) s m args below meth c Q cX12_isClear D cy ci h A0 .boolean o) {self5 : Int32 → Int32 → Int32 → (Nat → Int32) → (Nat → Nat → Int32) → Option (Int32 × MS)} (hself5 : ∀ (x2 : Int32) (x3 : Int32) (x4 : Int32) (I : Nat → Int32) (A : Nat → Nat → Int32) (H : Heap) (locs : List Loc) (ls : Array Slot), self5 x2 x3 x4 I A = some o → mH D cy ci h A0 s H locs I A → lv_has ls 5 [(0, .ref (h 0)), (2, .int x2), (3, .int x3), (4, .int x4)] → W p l e ({ frames := 0, cells := 0, slots := 0, locals := 0 } : Room) s m args below meth c H locs 0 0 Q (F0 m 5 ls [])) {x2 : Int32} {x4 : Int32} {I : Nat → Int32} {A : Nat → Nat → Int32} {H : Heap} {locs : List Loc} {ls : Array Slot} (hf : f_isClear_29 self5 x2 x4 I A = some o) (hM : mH D cy ci h A0 s H locs I A) (hl : lv_has ls 5 [(0, .ref (h 0)), (2, .int x2), (4, .int x4)]) : W p l e ({ frames := 0, cells := 0, slots := 0, locals := 0 } : Room) s m args below meth c H locs 0 0 Q (F0 m 29 ls []) := by
  obtain ⟨hx, hb, hml, hown, hts⟩ := id X
  unfold f_isClear_29 at hf
  refine lv_iconst (v := (0 : Int32)) hx hb dX12_isClear_29 (by decide) ?_
  exact w_isClear_30 X hret hself5 hf hM (lv_sub hl [0, 1, 2] rfl)
def f_isClear_5s (self5 : Int32 → Int32 → Int32 → (Nat → Int32) → (Nat → Nat → Int32) → Option (Int32 × MS)) (x2 : Int32) (x3 : Int32) (x4 : Int32) (I : Nat → Int32) (A : Nat → Nat → Int32) : Option (Int32 × MS) :=
  m_if (x2 < x4) (
  m_chk (vp_nar .boolean x3 = x3) (some (x3, (I, A)))
  ) (
  m_if (x3 = 0) (
  f_isClear_29 self5 x2 x4 I A
  ) (
  m_chk (¬ (x4 < 0 ∨ 64 ≤ (x4).toNatClampNeg)) (
  m_bnd (A 24 (x4).toNatClampNeg) (fun v1 =>
  m_if (v1 = 0) (
  f_isClear_30 self5 x2 x4 (1 : Int32) I A
  ) (
  f_isClear_29 self5 x2 x4 I A
  )))
  )
  )

set_option maxRecDepth 100000 in
set_option maxHeartbeats 4000000 in
theorem ws_isClear_5 {p : Program} {l : Launch} {e : Env} {s : State} {m : MethodId} {args : Array Value} {below : List Frame} {meth : Method} {c : Code} {Q : State → Prop} {D : va_G} {cy ci : ClassId} {h : Nat → Nat} {A0 : Nat → Prop} {o : Int32 × MS} (X : CallFix p m c cX12_isClear 5 s args wsX12_isClear RX12) (hret : mRi p l e ({ frames := 0, cells := 0, slots := 0, locals := 0 } : Room) s m args below meth c Q cX12_isClear D cy ci h A0 .boolean o) {self5 : Int32 → Int32 → Int32 → (Nat → Int32) → (Nat → Nat → Int32) → Option (Int32 × MS)} (hself5 : ∀ (x2 : Int32) (x3 : Int32) (x4 : Int32) (I : Nat → Int32) (A : Nat → Nat → Int32) (H : Heap) (locs : List Loc) (ls : Array Slot), self5 x2 x3 x4 I A = some o → mH D cy ci h A0 s H locs I A → lv_has ls 5 [(0, .ref (h 0)), (2, .int x2), (3, .int x3), (4, .int x4)] → W p l e ({ frames := 0, cells := 0, slots := 0, locals := 0 } : Room) s m args below meth c H locs 0 0 Q (F0 m 5 ls [])) {x2 : Int32} {x3 : Int32} {x4 : Int32} {I : Nat → Int32} {A : Nat → Nat → Int32} {H : Heap} {locs : List Loc} {ls : Array Slot} (hf : f_isClear_5s self5 x2 x3 x4 I A = some o) (hM : mH D cy ci h A0 s H locs I A) (hl : lv_has ls 5 [(0, .ref (h 0)), (2, .int x2), (3, .int x3), (4, .int x4)]) : W p l e ({ frames := 0, cells := 0, slots := 0, locals := 0 } : Room) s m args below meth c H locs 0 0 Q (F0 m 5 ls []) := by
  obtain ⟨hx, hb, hml, hown, hts⟩ := id X
  unfold f_isClear_5s at hf
  refine lv_iload hx hb dX12_isClear_5 (lv_at hl 3 rfl) ?_
  refine lv_iload_n hx hb dX12_isClear_7 rfl (lv_at hl 1 rfl) ?_
  refine lv_icmp_gt (tgt := 37) hx hb dX12_isClear_8 (by decide) (fun cc1 => ?_) (fun cc1 => ?_)
  · replace hf := m_ifT hf cc1
    refine lv_iload_n hx hb dX12_isClear_37 rfl (lv_at hl 2 rfl) ?_
    obtain ⟨cd, hf⟩ := m_chkE hf
    cases hf
    exact hret H locs _ ls hM (m_nb cd) dX12_isClear_38
  · replace hf := m_ifF hf cc1
    refine lv_iload_n hx hb dX12_isClear_11 rfl (lv_at hl 2 rfl) ?_
    refine lv_if_eq (tgt := 29) hx hb dX12_isClear_12 (by decide) (fun cc1 => ?_) (fun cc1 => ?_)
    · replace hf := m_ifT hf cc1
      exact w_isClear_29 X hret hself5 hf hM (lv_sub hl [0, 1, 3] rfl)
    · replace hf := m_ifF hf cc1
      refine lv_aload_n hx hb dX12_isClear_15 rfl (lv_at hl 0 rfl) ?_
      refine m_get (v := .ref (h 24)) X hw_isClear hM 24 (by decide) fl_isClear_24 rfl dX12_isClear_16 ?_
      refine lv_iload hx hb dX12_isClear_19 (lv_at hl 3 rfl) ?_
      obtain ⟨cd, hf⟩ := m_chkE hf
      refine m_iald X hM 24 20 64 rfl cd dX12_isClear_21 ?_
      clear cd
      obtain ⟨v1, ev, hf⟩ := m_bndE hf
      refine m_top ev ?_
      clear ev
      refine lv_if_ne (tgt := 29) hx hb dX12_isClear_22 (by decide) (fun cc1 => ?_) (fun cc1 => ?_)
      · replace hf := m_ifF hf cc1
        exact w_isClear_29 X hret hself5 hf hM (lv_sub hl [0, 1, 3] rfl)
      · replace hf := m_ifT hf cc1
        refine lv_iconst (v := (1 : Int32)) hx hb dX12_isClear_25 (by decide) ?_
        refine lv_goto (tgt := 30) hx hb dX12_isClear_26 (by decide) ?_
        exact w_isClear_30 X hret hself5 hf hM (lv_sub hl [0, 1, 3] rfl)
def f_isClear_5 : Nat → Int32 → Int32 → Int32 → (Nat → Int32) → (Nat → Nat → Int32) → Option (Int32 × MS)
  | 0 => fun _ _ _ _ _ => none
  | n + 1 => f_isClear_5s (f_isClear_5 n)
theorem w_isClear_5 {p : Program} {l : Launch} {e : Env} {s : State} {m : MethodId} {args : Array Value} {below : List Frame} {meth : Method} {c : Code} {Q : State → Prop} {D : va_G} {cy ci : ClassId} {h : Nat → Nat} {A0 : Nat → Prop} {o : Int32 × MS} (X : CallFix p m c cX12_isClear 5 s args wsX12_isClear RX12) (hret : mRi p l e ({ frames := 0, cells := 0, slots := 0, locals := 0 } : Room) s m args below meth c Q cX12_isClear D cy ci h A0 .boolean o) (n : Nat) : ∀ (x2 : Int32) (x3 : Int32) (x4 : Int32) (I : Nat → Int32) (A : Nat → Nat → Int32) (H : Heap) (locs : List Loc) (ls : Array Slot), f_isClear_5 n x2 x3 x4 I A = some o → mH D cy ci h A0 s H locs I A → lv_has ls 5 [(0, .ref (h 0)), (2, .int x2), (3, .int x3), (4, .int x4)] → W p l e ({ frames := 0, cells := 0, slots := 0, locals := 0 } : Room) s m args below meth c H locs 0 0 Q (F0 m 5 ls []) := by
  induction n with
  | zero => intro x2 x3 x4 I A H locs ls hf; cases hf
  | succ n ih => intro x2 x3 x4 I A H locs ls hf hM hl; exact ws_isClear_5 X hret (self5 := f_isClear_5 n) ih hf hM hl
def f_isClear_0 (x1 : Int32) (x2 : Int32) (I : Nat → Int32) (A : Nat → Nat → Int32) : Option (Int32 × MS) :=
  f_isClear_5 mFuel x2 (1 : Int32) x1 I A

set_option maxRecDepth 100000 in
set_option maxHeartbeats 4000000 in
theorem w_isClear_0 {p : Program} {l : Launch} {e : Env} {s : State} {m : MethodId} {args : Array Value} {below : List Frame} {meth : Method} {c : Code} {Q : State → Prop} {D : va_G} {cy ci : ClassId} {h : Nat → Nat} {A0 : Nat → Prop} {o : Int32 × MS} (X : CallFix p m c cX12_isClear 5 s args wsX12_isClear RX12) (hret : mRi p l e ({ frames := 0, cells := 0, slots := 0, locals := 0 } : Room) s m args below meth c Q cX12_isClear D cy ci h A0 .boolean o) {x1 : Int32} {x2 : Int32} {I : Nat → Int32} {A : Nat → Nat → Int32} {H : Heap} {locs : List Loc} {ls : Array Slot} (hf : f_isClear_0 x1 x2 I A = some o) (hM : mH D cy ci h A0 s H locs I A) (hl : lv_has ls 5 [(0, .ref (h 0)), (1, .int x1), (2, .int x2)]) : W p l e ({ frames := 0, cells := 0, slots := 0, locals := 0 } : Room) s m args below meth c H locs 0 0 Q (F0 m 0 ls []) := by
  obtain ⟨hx, hb, hml, hown, hts⟩ := id X
  unfold f_isClear_0 at hf
  refine lv_iconst (v := (1 : Int32)) hx hb dX12_isClear_0 (by decide) ?_
  refine lv_istore_n (lv' := [(3, .int (1 : Int32)), (0, .ref (h 0)), (1, .int x1), (2, .int x2)]) hx hb dX12_isClear_1 rfl hl (by decide) rfl (fun ls hl => ?_)
  refine lv_iload_n hx hb dX12_isClear_2 rfl (lv_at hl 2 rfl) ?_
  refine lv_istore (lv' := [(4, .int x1), (3, .int (1 : Int32)), (0, .ref (h 0)), (1, .int x1), (2, .int x2)]) hx hb dX12_isClear_3 hl (by decide) rfl (fun ls hl => ?_)
  exact w_isClear_5 X hret _ _ _ _ _ _ _ _ _ hf hM (lv_sub hl [2, 4, 1, 0] rfl)
def f_isClear (x1 : Int32) (x2 : Int32) (I : Nat → Int32) (A : Nat → Nat → Int32) : Option (Int32 × MS) := f_isClear_0 x1 x2 I A
theorem c_isClear {l : Launch} {D : va_G} {cy ci : ClassId} {h : Nat → Nat} {x1 : Int32} {x2 : Int32} {I : Nat → Int32} {A : Nat → Nat → Int32} {o : Int32 × MS} (hf : f_isClear x1 x2 I A = some o) : mMi l yX12_isClear wsX12_isClear ({ frames := 0, cells := 0, slots := 0, locals := 0 } : Room) [.ref (h 0), .int x1, .int x2] D cy ci h I A o :=
  m_entryI (cc := cX12_isClear) (maxL := 5) (by decide) rfl rfl (Nat.le_of_ble_eq_true rfl) (fun p e s m args below meth c A0 Q H locs ls X hret hM hl => w_isClear_0 X hret hf hM (lv_sub hl [0, 1, 2] rfl))
theorem hw_met : ∀ w ∈ wsX120, w ∈ wsX12_met := by decide +kernel
theorem fl_met_24 : Cond.fieldLink RX12 70 "MoveTextsModel" "men" "[I" ∈ wsX12_met := by decide +kernel
theorem hd_met : yX12_met.cls = RX12 ∧ yX12_met.cls ≠ "java/lang/invoke/MethodHandle" ∧ yX12_met.cls ≠ "java/lang/invoke/VarHandle" ∧ (parseMethodDescriptor yX12_met.desc).map (fun d => d.parameters.length) = some 3 := by decide +kernel
def f_met_51 (t0 : Int32) (I : Nat → Int32) (A : Nat → Nat → Int32) : Option (Int32 × MS) :=
  some (t0, (I, A))

set_option maxRecDepth 100000 in
set_option maxHeartbeats 4000000 in
theorem w_met_51 {p : Program} {l : Launch} {e : Env} {s : State} {m : MethodId} {args : Array Value} {below : List Frame} {meth : Method} {c : Code} {Q : State → Prop} {D : va_G} {cy ci : ClassId} {h : Nat → Nat} {A0 : Nat → Prop} {o : Int32 × MS} (X : CallFix p m c cX12_met 5 s args wsX12_met RX12) (hret : mRi p l e ({ frames := 1, cells := 0, slots := 0, locals := 24 } : Room) s m args below meth c Q cX12_met D cy ci h A0 .int o) {t0 : Int32} {I : Nat → Int32} {A : Nat → Nat → Int32} {H : Heap} {locs : List Loc} {ls : Array Slot} (hf : f_met_51 t0 I A = some o) (hM : mH D cy ci h A0 s H locs I A) (hl : lv_has ls 5 []) : W p l e ({ frames := 1, cells := 0, slots := 0, locals := 24 } : Room) s m args below meth c H locs 0 0 Q (F0 m 51 ls [.int t0]) := by
  obtain ⟨hx, hb, hml, hown, hts⟩ := id X
  unfold f_met_51 at hf
  cases hf
  exact hret H locs _ ls hM rfl dX12_met_51
def f_met_35 (x4 : Int32) (I : Nat → Int32) (A : Nat → Nat → Int32) : Option (Int32 × MS) :=
  m_if (0 ≤ x4) (
  m_chk (¬ (x4 < 0 ∨ 64 ≤ (x4).toNatClampNeg)) (
  m_bnd (A 24 (x4).toNatClampNeg) (fun v1 =>
  f_met_51 v1 I A))
  ) (
  f_met_51 (0 : Int32) I A
  )

set_option maxRecDepth 100000 in
set_option maxHeartbeats 4000000 in
theorem w_met_35 {p : Program} {l : Launch} {e : Env} {s : State} {m : MethodId} {args : Array Value} {below : List Frame} {meth : Method} {c : Code} {Q : State → Prop} {D : va_G} {cy ci : ClassId} {h : Nat → Nat} {A0 : Nat → Prop} {o : Int32 × MS} (X : CallFix p m c cX12_met 5 s args wsX12_met RX12) (hret : mRi p l e ({ frames := 1, cells := 0, slots := 0, locals := 24 } : Room) s m args below meth c Q cX12_met D cy ci h A0 .int o) {x4 : Int32} {I : Nat → Int32} {A : Nat → Nat → Int32} {H : Heap} {locs : List Loc} {ls : Array Slot} (hf : f_met_35 x4 I A = some o) (hM : mH D cy ci h A0 s H locs I A) (hl : lv_has ls 5 [(0, .ref (h 0)), (4, .int x4)]) : W p l e ({ frames := 1, cells := 0, slots := 0, locals := 24 } : Room) s m args below meth c H locs 0 0 Q (F0 m 35 ls []) := by
  obtain ⟨hx, hb, hml, hown, hts⟩ := id X
  unfold f_met_35 at hf
  refine lv_iload hx hb dX12_met_35 (lv_at hl 1 rfl) ?_
  refine lv_if_ge (tgt := 44) hx hb dX12_met_37 (by decide) (fun cc1 => ?_) (fun cc1 => ?_)
  · replace hf := m_ifT hf cc1
    refine lv_aload_n hx hb dX12_met_44 rfl (lv_at hl 0 rfl) ?_
    refine m_get (v := .ref (h 24)) X hw_met hM 24 (by decide) fl_met_24 rfl dX12_met_45 ?_
    refine lv_iload hx hb dX12_met_48 (lv_at hl 1 rfl) ?_
    obtain ⟨cd, hf⟩ := m_chkE hf
    refine m_iald X hM 24 20 64 rfl cd dX12_met_50 ?_
    clear cd
    obtain ⟨v1, ev, hf⟩ := m_bndE hf
    refine m_top ev ?_
    clear ev
    exact w_met_51 X hret hf hM (lv_sub hl [] rfl)
  · replace hf := m_ifF hf cc1
    refine lv_iconst (v := (0 : Int32)) hx hb dX12_met_40 (by decide) ?_
    refine lv_goto (tgt := 51) hx hb dX12_met_41 (by decide) ?_
    exact w_met_51 X hret hf hM (lv_sub hl [] rfl)
def f_met_8s (self8 : Int32 → Int32 → Int32 → (Nat → Int32) → (Nat → Nat → Int32) → Option (Int32 × MS)) (x2 : Int32) (x3 : Int32) (x4 : Int32) (I : Nat → Int32) (A : Nat → Nat → Int32) : Option (Int32 × MS) :=
  m_if (x4 < 0) (
  f_met_35 x4 I A
  ) (
  m_chk (¬ (x4 < 0 ∨ 64 ≤ (x4).toNatClampNeg)) (
  m_bnd (A 24 (x4).toNatClampNeg) (fun v1 =>
  m_if (v1 = 0) (
  m_cl (f_step x4 x2 x3 I A) (fun r2 Ic2 Ac2 =>
  self8 x2 x3 r2 Ic2 Ac2)
  ) (
  f_met_35 x4 I A
  )))
  )

set_option maxRecDepth 100000 in
set_option maxHeartbeats 4000000 in
theorem ws_met_8 {p : Program} {l : Launch} {e : Env} {s : State} {m : MethodId} {args : Array Value} {below : List Frame} {meth : Method} {c : Code} {Q : State → Prop} {D : va_G} {cy ci : ClassId} {h : Nat → Nat} {A0 : Nat → Prop} {o : Int32 × MS} (X : CallFix p m c cX12_met 5 s args wsX12_met RX12) (hret : mRi p l e ({ frames := 1, cells := 0, slots := 0, locals := 24 } : Room) s m args below meth c Q cX12_met D cy ci h A0 .int o) {self8 : Int32 → Int32 → Int32 → (Nat → Int32) → (Nat → Nat → Int32) → Option (Int32 × MS)} (hself8 : ∀ (x2 : Int32) (x3 : Int32) (x4 : Int32) (I : Nat → Int32) (A : Nat → Nat → Int32) (H : Heap) (locs : List Loc) (ls : Array Slot), self8 x2 x3 x4 I A = some o → mH D cy ci h A0 s H locs I A → lv_has ls 5 [(0, .ref (h 0)), (2, .int x2), (3, .int x3), (4, .int x4)] → W p l e ({ frames := 1, cells := 0, slots := 0, locals := 24 } : Room) s m args below meth c H locs 0 0 Q (F0 m 8 ls [])) {x2 : Int32} {x3 : Int32} {x4 : Int32} {I : Nat → Int32} {A : Nat → Nat → Int32} {H : Heap} {locs : List Loc} {ls : Array Slot} (hf : f_met_8s self8 x2 x3 x4 I A = some o) (hM : mH D cy ci h A0 s H locs I A) (hl : lv_has ls 5 [(0, .ref (h 0)), (2, .int x2), (3, .int x3), (4, .int x4)]) : W p l e ({ frames := 1, cells := 0, slots := 0, locals := 24 } : Room) s m args below meth c H locs 0 0 Q (F0 m 8 ls []) := by
  obtain ⟨hx, hb, hml, hown, hts⟩ := id X
  unfold f_met_8s at hf
  refine lv_iload hx hb dX12_met_8 (lv_at hl 3 rfl) ?_
  refine lv_if_lt (tgt := 35) hx hb dX12_met_10 (by decide) (fun cc1 => ?_) (fun cc1 => ?_)
  · replace hf := m_ifT hf cc1
    exact w_met_35 X hret hf hM (lv_sub hl [0, 3] rfl)
  · replace hf := m_ifF hf cc1
    refine lv_aload_n hx hb dX12_met_13 rfl (lv_at hl 0 rfl) ?_
    refine m_get (v := .ref (h 24)) X hw_met hM 24 (by decide) fl_met_24 rfl dX12_met_14 ?_
    refine lv_iload hx hb dX12_met_17 (lv_at hl 3 rfl) ?_
    obtain ⟨cd, hf⟩ := m_chkE hf
    refine m_iald X hM 24 20 64 rfl cd dX12_met_19 ?_
    clear cd
    obtain ⟨v1, ev, hf⟩ := m_bndE hf
    refine m_top ev ?_
    clear ev
    refine lv_if_ne (tgt := 35) hx hb dX12_met_20 (by decide) (fun cc1 => ?_) (fun cc1 => ?_)
    · replace hf := m_ifF hf cc1
      exact w_met_35 X hret hf hM (lv_sub hl [0, 3] rfl)
    · replace hf := m_ifT hf cc1
      refine lv_iload hx hb dX12_met_23 (lv_at hl 3 rfl) ?_
      refine lv_iload_n hx hb dX12_met_25 rfl (lv_at hl 1 rfl) ?_
      refine lv_iload_n hx hb dX12_met_26 rfl (lv_at hl 2 rfl) ?_
      obtain ⟨o2, ho, hf⟩ := m_clE hf
      refine m_callSi X hM (c_step ho) gX12_met_X12_step rfl ⟨rfl, rfl⟩ hd_step ⟨Nat.le_of_ble_eq_true rfl, Nat.le_of_ble_eq_true rfl⟩ rfl hl.1 rfl (Nat.le_of_ble_eq_true rfl) dX12_met_27 (fun H locs hM => ?_)
      clear ho
      refine lv_istore (lv' := [(4, .int o2.1), (0, .ref (h 0)), (2, .int x2), (3, .int x3)]) hx hb dX12_met_30 hl (by decide) rfl (fun ls hl => ?_)
      refine lv_goto (tgt := 8) hx hb dX12_met_32 (by decide) ?_
      exact hself8 _ _ _ _ _ _ _ _ hf hM (lv_sub hl [1, 2, 3, 0] rfl)
def f_met_8 : Nat → Int32 → Int32 → Int32 → (Nat → Int32) → (Nat → Nat → Int32) → Option (Int32 × MS)
  | 0 => fun _ _ _ _ _ => none
  | n + 1 => f_met_8s (f_met_8 n)
theorem w_met_8 {p : Program} {l : Launch} {e : Env} {s : State} {m : MethodId} {args : Array Value} {below : List Frame} {meth : Method} {c : Code} {Q : State → Prop} {D : va_G} {cy ci : ClassId} {h : Nat → Nat} {A0 : Nat → Prop} {o : Int32 × MS} (X : CallFix p m c cX12_met 5 s args wsX12_met RX12) (hret : mRi p l e ({ frames := 1, cells := 0, slots := 0, locals := 24 } : Room) s m args below meth c Q cX12_met D cy ci h A0 .int o) (n : Nat) : ∀ (x2 : Int32) (x3 : Int32) (x4 : Int32) (I : Nat → Int32) (A : Nat → Nat → Int32) (H : Heap) (locs : List Loc) (ls : Array Slot), f_met_8 n x2 x3 x4 I A = some o → mH D cy ci h A0 s H locs I A → lv_has ls 5 [(0, .ref (h 0)), (2, .int x2), (3, .int x3), (4, .int x4)] → W p l e ({ frames := 1, cells := 0, slots := 0, locals := 24 } : Room) s m args below meth c H locs 0 0 Q (F0 m 8 ls []) := by
  induction n with
  | zero => intro x2 x3 x4 I A H locs ls hf; cases hf
  | succ n ih => intro x2 x3 x4 I A H locs ls hf hM hl; exact ws_met_8 X hret (self8 := f_met_8 n) ih hf hM hl
def f_met_0 (x1 : Int32) (x2 : Int32) (x3 : Int32) (I : Nat → Int32) (A : Nat → Nat → Int32) : Option (Int32 × MS) :=
  m_cl (f_step x1 x2 x3 I A) (fun r1 Ic1 Ac1 =>
  f_met_8 mFuel x2 x3 r1 Ic1 Ac1)

set_option maxRecDepth 100000 in
set_option maxHeartbeats 4000000 in
theorem w_met_0 {p : Program} {l : Launch} {e : Env} {s : State} {m : MethodId} {args : Array Value} {below : List Frame} {meth : Method} {c : Code} {Q : State → Prop} {D : va_G} {cy ci : ClassId} {h : Nat → Nat} {A0 : Nat → Prop} {o : Int32 × MS} (X : CallFix p m c cX12_met 5 s args wsX12_met RX12) (hret : mRi p l e ({ frames := 1, cells := 0, slots := 0, locals := 24 } : Room) s m args below meth c Q cX12_met D cy ci h A0 .int o) {x1 : Int32} {x2 : Int32} {x3 : Int32} {I : Nat → Int32} {A : Nat → Nat → Int32} {H : Heap} {locs : List Loc} {ls : Array Slot} (hf : f_met_0 x1 x2 x3 I A = some o) (hM : mH D cy ci h A0 s H locs I A) (hl : lv_has ls 5 [(0, .ref (h 0)), (1, .int x1), (2, .int x2), (3, .int x3)]) : W p l e ({ frames := 1, cells := 0, slots := 0, locals := 24 } : Room) s m args below meth c H locs 0 0 Q (F0 m 0 ls []) := by
  obtain ⟨hx, hb, hml, hown, hts⟩ := id X
  unfold f_met_0 at hf
  refine lv_iload_n hx hb dX12_met_0 rfl (lv_at hl 1 rfl) ?_
  refine lv_iload_n hx hb dX12_met_1 rfl (lv_at hl 2 rfl) ?_
  refine lv_iload_n hx hb dX12_met_2 rfl (lv_at hl 3 rfl) ?_
  obtain ⟨o1, ho, hf⟩ := m_clE hf
  refine m_callSi X hM (c_step ho) gX12_met_X12_step rfl ⟨rfl, rfl⟩ hd_step ⟨Nat.le_of_ble_eq_true rfl, Nat.le_of_ble_eq_true rfl⟩ rfl hl.1 rfl (Nat.le_of_ble_eq_true rfl) dX12_met_3 (fun H locs hM => ?_)
  clear ho
  refine lv_istore (lv' := [(4, .int o1.1), (0, .ref (h 0)), (1, .int x1), (2, .int x2), (3, .int x3)]) hx hb dX12_met_6 hl (by decide) rfl (fun ls hl => ?_)
  exact w_met_8 X hret _ _ _ _ _ _ _ _ _ hf hM (lv_sub hl [1, 3, 4, 0] rfl)
def f_met (x1 : Int32) (x2 : Int32) (x3 : Int32) (I : Nat → Int32) (A : Nat → Nat → Int32) : Option (Int32 × MS) := f_met_0 x1 x2 x3 I A
theorem c_met {l : Launch} {D : va_G} {cy ci : ClassId} {h : Nat → Nat} {x1 : Int32} {x2 : Int32} {x3 : Int32} {I : Nat → Int32} {A : Nat → Nat → Int32} {o : Int32 × MS} (hf : f_met x1 x2 x3 I A = some o) : mMi l yX12_met wsX12_met ({ frames := 1, cells := 0, slots := 0, locals := 24 } : Room) [.ref (h 0), .int x1, .int x2, .int x3] D cy ci h I A o :=
  m_entryI (cc := cX12_met) (maxL := 5) (by decide) rfl rfl (Nat.le_of_ble_eq_true rfl) (fun p e s m args below meth c A0 Q H locs ls X hret hM hl => w_met_0 X hret hf hM (lv_sub hl [0, 1, 2, 3] rfl))
theorem hd_isAttacked : yX12_isAttacked.cls = RX12 ∧ yX12_isAttacked.cls ≠ "java/lang/invoke/MethodHandle" ∧ yX12_isAttacked.cls ≠ "java/lang/invoke/VarHandle" ∧ (parseMethodDescriptor yX12_isAttacked.desc).map (fun d => d.parameters.length) = some 2 := by decide +kernel
def f_isAttacked_217 (self61 : Int32 → Int32 → Int32 → Int32 → (Nat → Int32) → (Nat → Nat → Int32) → Option (Int32 × MS)) (self71 : Int32 → Int32 → Int32 → Int32 → Int32 → (Nat → Int32) → (Nat → Nat → Int32) → Option (Int32 × MS)) (x1 : Int32) (x3 : Int32) (x5 : Int32) (x6 : Int32) (x7 : Int32) (I : Nat → Int32) (A : Nat → Nat → Int32) : Option (Int32 × MS) :=
  m_bnd (x7 + (1 : Int32)) (fun v1 =>
  self71 x1 x3 x5 x6 v1 I A)

set_option maxRecDepth 100000 in
set_option maxHeartbeats 4000000 in
theorem w_isAttacked_217 {p : Program} {l : Launch} {e : Env} {s : State} {m : MethodId} {args : Array Value} {below : List Frame} {meth : Method} {c : Code} {Q : State → Prop} {D : va_G} {cy ci : ClassId} {h : Nat → Nat} {A0 : Nat → Prop} {o : Int32 × MS} (X : CallFix p m c cX12_isAttacked 10 s args wsX12_isAttacked RX12) (hret : mRi p l e ({ frames := 2, cells := 0, slots := 0, locals := 48 } : Room) s m args below meth c Q cX12_isAttacked D cy ci h A0 .boolean o) {self61 : Int32 → Int32 → Int32 → Int32 → (Nat → Int32) → (Nat → Nat → Int32) → Option (Int32 × MS)} (hself61 : ∀ (x1 : Int32) (x3 : Int32) (x5 : Int32) (x6 : Int32) (I : Nat → Int32) (A : Nat → Nat → Int32) (H : Heap) (locs : List Loc) (ls : Array Slot), self61 x1 x3 x5 x6 I A = some o → mH D cy ci h A0 s H locs I A → lv_has ls 10 [(0, .ref (h 0)), (1, .int x1), (3, .int x3), (5, .int x5), (6, .int x6)] → W p l e ({ frames := 2, cells := 0, slots := 0, locals := 48 } : Room) s m args below meth c H locs 0 0 Q (F0 m 61 ls [])) {self71 : Int32 → Int32 → Int32 → Int32 → Int32 → (Nat → Int32) → (Nat → Nat → Int32) → Option (Int32 × MS)} (hself71 : ∀ (x1 : Int32) (x3 : Int32) (x5 : Int32) (x6 : Int32) (x7 : Int32) (I : Nat → Int32) (A : Nat → Nat → Int32) (H : Heap) (locs : List Loc) (ls : Array Slot), self71 x1 x3 x5 x6 x7 I A = some o → mH D cy ci h A0 s H locs I A → lv_has ls 10 [(0, .ref (h 0)), (1, .int x1), (3, .int x3), (5, .int x5), (6, .int x6), (7, .int x7)] → W p l e ({ frames := 2, cells := 0, slots := 0, locals := 48 } : Room) s m args below meth c H locs 0 0 Q (F0 m 71 ls [])) {x1 : Int32} {x3 : Int32} {x5 : Int32} {x6 : Int32} {x7 : Int32} {I : Nat → Int32} {A : Nat → Nat → Int32} {H : Heap} {locs : List Loc} {ls : Array Slot} (hf : f_isAttacked_217 self61 self71 x1 x3 x5 x6 x7 I A = some o) (hM : mH D cy ci h A0 s H locs I A) (hl : lv_has ls 10 [(0, .ref (h 0)), (1, .int x1), (3, .int x3), (5, .int x5), (6, .int x6), (7, .int x7)]) : W p l e ({ frames := 2, cells := 0, slots := 0, locals := 48 } : Room) s m args below meth c H locs 0 0 Q (F0 m 217 ls []) := by
  obtain ⟨hx, hb, hml, hown, hts⟩ := id X
  unfold f_isAttacked_217 at hf
  obtain ⟨v1, ev, hf⟩ := m_bndE hf
  refine lv_iinc (v := v1) (lv' := [(7, .int v1), (0, .ref (h 0)), (1, .int x1), (3, .int x3), (5, .int x5), (6, .int x6)]) hx hb dX12_isAttacked_217 hl (k := 5) rfl (by rw [ev]; rfl) (by decide) rfl (fun ls hl => ?_)
  clear ev
  refine lv_goto (tgt := 71) hx hb dX12_isAttacked_220 (by decide) ?_
  exact hself71 _ _ _ _ _ _ _ _ _ _ hf hM (lv_sub hl [1, 2, 3, 4, 5, 0] rfl)
def f_isAttacked_215 (self61 : Int32 → Int32 → Int32 → Int32 → (Nat → Int32) → (Nat → Nat → Int32) → Option (Int32 × MS)) (self71 : Int32 → Int32 → Int32 → Int32 → Int32 → (Nat → Int32) → (Nat → Nat → Int32) → Option (Int32 × MS)) (x1 : Int32) (x3 : Int32) (x6 : Int32) (x7 : Int32) (t0 : Int32) (I : Nat → Int32) (A : Nat → Nat → Int32) : Option (Int32 × MS) :=
  f_isAttacked_217 self61 self71 x1 x3 t0 x6 x7 I A

set_option maxRecDepth 100000 in
set_option maxHeartbeats 4000000 in
theorem w_isAttacked_215 {p : Program} {l : Launch} {e : Env} {s : State} {m : MethodId} {args : Array Value} {below : List Frame} {meth : Method} {c : Code} {Q : State → Prop} {D : va_G} {cy ci : ClassId} {h : Nat → Nat} {A0 : Nat → Prop} {o : Int32 × MS} (X : CallFix p m c cX12_isAttacked 10 s args wsX12_isAttacked RX12) (hret : mRi p l e ({ frames := 2, cells := 0, slots := 0, locals := 48 } : Room) s m args below meth c Q cX12_isAttacked D cy ci h A0 .boolean o) {self61 : Int32 → Int32 → Int32 → Int32 → (Nat → Int32) → (Nat → Nat → Int32) → Option (Int32 × MS)} (hself61 : ∀ (x1 : Int32) (x3 : Int32) (x5 : Int32) (x6 : Int32) (I : Nat → Int32) (A : Nat → Nat → Int32) (H : Heap) (locs : List Loc) (ls : Array Slot), self61 x1 x3 x5 x6 I A = some o → mH D cy ci h A0 s H locs I A → lv_has ls 10 [(0, .ref (h 0)), (1, .int x1), (3, .int x3), (5, .int x5), (6, .int x6)] → W p l e ({ frames := 2, cells := 0, slots := 0, locals := 48 } : Room) s m args below meth c H locs 0 0 Q (F0 m 61 ls [])) {self71 : Int32 → Int32 → Int32 → Int32 → Int32 → (Nat → Int32) → (Nat → Nat → Int32) → Option (Int32 × MS)} (hself71 : ∀ (x1 : Int32) (x3 : Int32) (x5 : Int32) (x6 : Int32) (x7 : Int32) (I : Nat → Int32) (A : Nat → Nat → Int32) (H : Heap) (locs : List Loc) (ls : Array Slot), self71 x1 x3 x5 x6 x7 I A = some o → mH D cy ci h A0 s H locs I A → lv_has ls 10 [(0, .ref (h 0)), (1, .int x1), (3, .int x3), (5, .int x5), (6, .int x6), (7, .int x7)] → W p l e ({ frames := 2, cells := 0, slots := 0, locals := 48 } : Room) s m args below meth c H locs 0 0 Q (F0 m 71 ls [])) {x1 : Int32} {x3 : Int32} {x6 : Int32} {x7 : Int32} {t0 : Int32} {I : Nat → Int32} {A : Nat → Nat → Int32} {H : Heap} {locs : List Loc} {ls : Array Slot} (hf : f_isAttacked_215 self61 self71 x1 x3 x6 x7 t0 I A = some o) (hM : mH D cy ci h A0 s H locs I A) (hl : lv_has ls 10 [(0, .ref (h 0)), (1, .int x1), (3, .int x3), (6, .int x6), (7, .int x7)]) : W p l e ({ frames := 2, cells := 0, slots := 0, locals := 48 } : Room) s m args below meth c H locs 0 0 Q (F0 m 215 ls [.int t0]) := by
  obtain ⟨hx, hb, hml, hown, hts⟩ := id X
  unfold f_isAttacked_215 at hf
  refine lv_istore (lv' := [(5, .int t0), (0, .ref (h 0)), (1, .int x1), (3, .int x3), (6, .int x6), (7, .int x7)]) hx hb dX12_isAttacked_215 hl (by decide) rfl (fun ls hl => ?_)
  exact w_isAttacked_217 X hret hself61 hself71 hf hM (lv_sub hl [1, 2, 3, 0, 4, 5] rfl)
def f_isAttacked_210 (self61 : Int32 → Int32 → Int32 → Int32 → (Nat → Int32) → (Nat → Nat → Int32) → Option (Int32 × MS)) (self71 : Int32 → Int32 → Int32 → Int32 → Int32 → (Nat → Int32) → (Nat → Nat → Int32) → Option (Int32 × MS)) (x1 : Int32) (x3 : Int32) (x6 : Int32) (x7 : Int32) (I : Nat → Int32) (A : Nat → Nat → Int32) : Option (Int32 × MS) :=
  f_isAttacked_215 self61 self71 x1 x3 x6 x7 (1 : Int32) I A

set_option maxRecDepth 100000 in
set_option maxHeartbeats 4000000 in
theorem w_isAttacked_210 {p : Program} {l : Launch} {e : Env} {s : State} {m : MethodId} {args : Array Value} {below : List Frame} {meth : Method} {c : Code} {Q : State → Prop} {D : va_G} {cy ci : ClassId} {h : Nat → Nat} {A0 : Nat → Prop} {o : Int32 × MS} (X : CallFix p m c cX12_isAttacked 10 s args wsX12_isAttacked RX12) (hret : mRi p l e ({ frames := 2, cells := 0, slots := 0, locals := 48 } : Room) s m args below meth c Q cX12_isAttacked D cy ci h A0 .boolean o) {self61 : Int32 → Int32 → Int32 → Int32 → (Nat → Int32) → (Nat → Nat → Int32) → Option (Int32 × MS)} (hself61 : ∀ (x1 : Int32) (x3 : Int32) (x5 : Int32) (x6 : Int32) (I : Nat → Int32) (A : Nat → Nat → Int32) (H : Heap) (locs : List Loc) (ls : Array Slot), self61 x1 x3 x5 x6 I A = some o → mH D cy ci h A0 s H locs I A → lv_has ls 10 [(0, .ref (h 0)), (1, .int x1), (3, .int x3), (5, .int x5), (6, .int x6)] → W p l e ({ frames := 2, cells := 0, slots := 0, locals := 48 } : Room) s m args below meth c H locs 0 0 Q (F0 m 61 ls [])) {self71 : Int32 → Int32 → Int32 → Int32 → Int32 → (Nat → Int32) → (Nat → Nat → Int32) → Option (Int32 × MS)} (hself71 : ∀ (x1 : Int32) (x3 : Int32) (x5 : Int32) (x6 : Int32) (x7 : Int32) (I : Nat → Int32) (A : Nat → Nat → Int32) (H : Heap) (locs : List Loc) (ls : Array Slot), self71 x1 x3 x5 x6 x7 I A = some o → mH D cy ci h A0 s H locs I A → lv_has ls 10 [(0, .ref (h 0)), (1, .int x1), (3, .int x3), (5, .int x5), (6, .int x6), (7, .int x7)] → W p l e ({ frames := 2, cells := 0, slots := 0, locals := 48 } : Room) s m args below meth c H locs 0 0 Q (F0 m 71 ls [])) {x1 : Int32} {x3 : Int32} {x6 : Int32} {x7 : Int32} {I : Nat → Int32} {A : Nat → Nat → Int32} {H : Heap} {locs : List Loc} {ls : Array Slot} (hf : f_isAttacked_210 self61 self71 x1 x3 x6 x7 I A = some o) (hM : mH D cy ci h A0 s H locs I A) (hl : lv_has ls 10 [(0, .ref (h 0)), (1, .int x1), (3, .int x3), (6, .int x6), (7, .int x7)]) : W p l e ({ frames := 2, cells := 0, slots := 0, locals := 48 } : Room) s m args below meth c H locs 0 0 Q (F0 m 210 ls []) := by
  obtain ⟨hx, hb, hml, hown, hts⟩ := id X
  unfold f_isAttacked_210 at hf
  refine lv_iconst (v := (1 : Int32)) hx hb dX12_isAttacked_210 (by decide) ?_
  refine lv_goto (tgt := 215) hx hb dX12_isAttacked_211 (by decide) ?_
  exact w_isAttacked_215 X hret hself61 hself71 hf hM (lv_sub hl [0, 1, 2, 3, 4] rfl)
def f_isAttacked_205 (self61 : Int32 → Int32 → Int32 → Int32 → (Nat → Int32) → (Nat → Nat → Int32) → Option (Int32 × MS)) (self71 : Int32 → Int32 → Int32 → Int32 → Int32 → (Nat → Int32) → (Nat → Nat → Int32) → Option (Int32 × MS)) (x1 : Int32) (x3 : Int32) (x6 : Int32) (x7 : Int32) (t0 : Int32) (t1 : Int32) (I : Nat → Int32) (A : Nat → Nat → Int32) : Option (Int32 × MS) :=
  m_bnd (t0 + x3) (fun v1 =>
  m_if (t1 = v1) (
  f_isAttacked_210 self61 self71 x1 x3 x6 x7 I A
  ) (
  f_isAttacked_215 self61 self71 x1 x3 x6 x7 (0 : Int32) I A
  ))

set_option maxRecDepth 100000 in
set_option maxHeartbeats 4000000 in
theorem w_isAttacked_205 {p : Program} {l : Launch} {e : Env} {s : State} {m : MethodId} {args : Array Value} {below : List Frame} {meth : Method} {c : Code} {Q : State → Prop} {D : va_G} {cy ci : ClassId} {h : Nat → Nat} {A0 : Nat → Prop} {o : Int32 × MS} (X : CallFix p m c cX12_isAttacked 10 s args wsX12_isAttacked RX12) (hret : mRi p l e ({ frames := 2, cells := 0, slots := 0, locals := 48 } : Room) s m args below meth c Q cX12_isAttacked D cy ci h A0 .boolean o) {self61 : Int32 → Int32 → Int32 → Int32 → (Nat → Int32) → (Nat → Nat → Int32) → Option (Int32 × MS)} (hself61 : ∀ (x1 : Int32) (x3 : Int32) (x5 : Int32) (x6 : Int32) (I : Nat → Int32) (A : Nat → Nat → Int32) (H : Heap) (locs : List Loc) (ls : Array Slot), self61 x1 x3 x5 x6 I A = some o → mH D cy ci h A0 s H locs I A → lv_has ls 10 [(0, .ref (h 0)), (1, .int x1), (3, .int x3), (5, .int x5), (6, .int x6)] → W p l e ({ frames := 2, cells := 0, slots := 0, locals := 48 } : Room) s m args below meth c H locs 0 0 Q (F0 m 61 ls [])) {self71 : Int32 → Int32 → Int32 → Int32 → Int32 → (Nat → Int32) → (Nat → Nat → Int32) → Option (Int32 × MS)} (hself71 : ∀ (x1 : Int32) (x3 : Int32) (x5 : Int32) (x6 : Int32) (x7 : Int32) (I : Nat → Int32) (A : Nat → Nat → Int32) (H : Heap) (locs : List Loc) (ls : Array Slot), self71 x1 x3 x5 x6 x7 I A = some o → mH D cy ci h A0 s H locs I A → lv_has ls 10 [(0, .ref (h 0)), (1, .int x1), (3, .int x3), (5, .int x5), (6, .int x6), (7, .int x7)] → W p l e ({ frames := 2, cells := 0, slots := 0, locals := 48 } : Room) s m args below meth c H locs 0 0 Q (F0 m 71 ls [])) {x1 : Int32} {x3 : Int32} {x6 : Int32} {x7 : Int32} {t0 : Int32} {t1 : Int32} {I : Nat → Int32} {A : Nat → Nat → Int32} {H : Heap} {locs : List Loc} {ls : Array Slot} (hf : f_isAttacked_205 self61 self71 x1 x3 x6 x7 t0 t1 I A = some o) (hM : mH D cy ci h A0 s H locs I A) (hl : lv_has ls 10 [(0, .ref (h 0)), (1, .int x1), (3, .int x3), (6, .int x6), (7, .int x7)]) : W p l e ({ frames := 2, cells := 0, slots := 0, locals := 48 } : Room) s m args below meth c H locs 0 0 Q (F0 m 205 ls [.int t0, .int t1]) := by
  obtain ⟨hx, hb, hml, hown, hts⟩ := id X
  unfold f_isAttacked_205 at hf
  refine lv_iload_n hx hb dX12_isAttacked_205 rfl (lv_at hl 2 rfl) ?_
  refine lv_iadd hx hb dX12_isAttacked_206 ?_
  obtain ⟨v1, ev, hf⟩ := m_bndE hf
  refine m_top ev ?_
  clear ev
  refine lv_icmp_ne (tgt := 214) hx hb dX12_isAttacked_207 (by decide) (fun cc1 => ?_) (fun cc1 => ?_)
  · replace hf := m_ifF hf cc1
    refine lv_iconst (v := (0 : Int32)) hx hb dX12_isAttacked_214 (by decide) ?_
    exact w_isAttacked_215 X hret hself61 hself71 hf hM (lv_sub hl [0, 1, 2, 3, 4] rfl)
  · replace hf := m_ifT hf cc1
    exact w_isAttacked_210 X hret hself61 hself71 hf hM (lv_sub hl [0, 1, 2, 3, 4] rfl)
def f_isAttacked_168 (self61 : Int32 → Int32 → Int32 → Int32 → (Nat → Int32) → (Nat → Nat → Int32) → Option (Int32 × MS)) (self71 : Int32 → Int32 → Int32 → Int32 → Int32 → (Nat → Int32) → (Nat → Nat → Int32) → Option (Int32 × MS)) (x1 : Int32) (x3 : Int32) (x5 : Int32) (x6 : Int32) (x7 : Int32) (x8 : Int32) (I : Nat → Int32) (A : Nat → Nat → Int32) : Option (Int32 × MS) :=
  m_cl (f_met x1 x6 x7 I A) (fun r1 Ic1 Ac1 =>
  m_if (x5 = 0) (
  m_bnd ((5 : Int32) + x3) (fun v2 =>
  m_if (r1 = v2) (
  f_isAttacked_210 self61 self71 x1 x3 x6 x7 Ic1 Ac1
  ) (
  m_if (x8 = (1 : Int32)) (
  f_isAttacked_205 self61 self71 x1 x3 x6 x7 (4 : Int32) r1 Ic1 Ac1
  ) (
  f_isAttacked_205 self61 self71 x1 x3 x6 x7 (3 : Int32) r1 Ic1 Ac1
  )
  ))
  ) (
  f_isAttacked_210 self61 self71 x1 x3 x6 x7 Ic1 Ac1
  ))

set_option maxRecDepth 100000 in
set_option maxHeartbeats 4000000 in
theorem w_isAttacked_168 {p : Program} {l : Launch} {e : Env} {s : State} {m : MethodId} {args : Array Value} {below : List Frame} {meth : Method} {c : Code} {Q : State → Prop} {D : va_G} {cy ci : ClassId} {h : Nat → Nat} {A0 : Nat → Prop} {o : Int32 × MS} (X : CallFix p m c cX12_isAttacked 10 s args wsX12_isAttacked RX12) (hret : mRi p l e ({ frames := 2, cells := 0, slots := 0, locals := 48 } : Room) s m args below meth c Q cX12_isAttacked D cy ci h A0 .boolean o) {self61 : Int32 → Int32 → Int32 → Int32 → (Nat → Int32) → (Nat → Nat → Int32) → Option (Int32 × MS)} (hself61 : ∀ (x1 : Int32) (x3 : Int32) (x5 : Int32) (x6 : Int32) (I : Nat → Int32) (A : Nat → Nat → Int32) (H : Heap) (locs : List Loc) (ls : Array Slot), self61 x1 x3 x5 x6 I A = some o → mH D cy ci h A0 s H locs I A → lv_has ls 10 [(0, .ref (h 0)), (1, .int x1), (3, .int x3), (5, .int x5), (6, .int x6)] → W p l e ({ frames := 2, cells := 0, slots := 0, locals := 48 } : Room) s m args below meth c H locs 0 0 Q (F0 m 61 ls [])) {self71 : Int32 → Int32 → Int32 → Int32 → Int32 → (Nat → Int32) → (Nat → Nat → Int32) → Option (Int32 × MS)} (hself71 : ∀ (x1 : Int32) (x3 : Int32) (x5 : Int32) (x6 : Int32) (x7 : Int32) (I : Nat → Int32) (A : Nat → Nat → Int32) (H : Heap) (locs : List Loc) (ls : Array Slot), self71 x1 x3 x5 x6 x7 I A = some o → mH D cy ci h A0 s H locs I A → lv_has ls 10 [(0, .ref (h 0)), (1, .int x1), (3, .int x3), (5, .int x5), (6, .int x6), (7, .int x7)] → W p l e ({ frames := 2, cells := 0, slots := 0, locals := 48 } : Room) s m args below meth c H locs 0 0 Q (F0 m 71 ls [])) {x1 : Int32} {x3 : Int32} {x5 : Int32} {x6 : Int32} {x7 : Int32} {x8 : Int32} {I : Nat → Int32} {A : Nat → Nat → Int32} {H : Heap} {locs : List Loc} {ls : Array Slot} (hf : f_isAttacked_168 self61 self71 x1 x3 x5 x6 x7 x8 I A = some o) (hM : mH D cy ci h A0 s H locs I A) (hl : lv_has ls 10 [(0, .ref (h 0)), (1, .int x1), (3, .int x3), (5, .int x5), (6, .int x6), (7, .int x7), (8, .int x8)]) : W p l e ({ frames := 2, cells := 0, slots := 0, locals := 48 } : Room) s m args below meth c H locs 0 0 Q (F0 m 168 ls []) := by
  obtain ⟨hx, hb, hml, hown, hts⟩ := id X
  unfold f_isAttacked_168 at hf
  refine lv_aload_n hx hb dX12_isAttacked_168 rfl (lv_at hl 0 rfl) ?_
  refine lv_iload_n hx hb dX12_isAttacked_169 rfl (lv_at hl 1 rfl) ?_
  refine lv_iload hx hb dX12_isAttacked_170 (lv_at hl 4 rfl) ?_
  refine lv_iload hx hb dX12_isAttacked_172 (lv_at hl 5 rfl) ?_
  obtain ⟨o1, ho, hf⟩ := m_clE hf
  refine m_callVi X hM (c_met ho) gX12_isAttacked_X12_met rfl ⟨rfl, rfl⟩ hd_met ⟨Nat.le_of_ble_eq_true rfl, Nat.le_of_ble_eq_true rfl⟩ rfl hl.1 rfl (Nat.le_of_ble_eq_true rfl) dX12_isAttacked_174 (fun H locs hM => ?_)
  clear ho
  refine lv_istore (lv' := [(9, .int o1.1), (0, .ref (h 0)), (1, .int x1), (3, .int x3), (5, .int x5), (6, .int x6), (7, .int x7), (8, .int x8)]) hx hb dX12_isAttacked_177 hl (by decide) rfl (fun ls hl => ?_)
  refine lv_iload hx hb dX12_isAttacked_179 (lv_at hl 4 rfl) ?_
  refine lv_if_ne (tgt := 210) hx hb dX12_isAttacked_181 (by decide) (fun cc1 => ?_) (fun cc1 => ?_)
  · replace hf := m_ifF hf cc1
    exact w_isAttacked_210 X hret hself61 hself71 hf hM (lv_sub hl [1, 2, 3, 5, 6] rfl)
  · replace hf := m_ifT hf cc1
    refine lv_iload hx hb dX12_isAttacked_184 (lv_at hl 0 rfl) ?_
    refine lv_iconst (v := (5 : Int32)) hx hb dX12_isAttacked_186 (by decide) ?_
    refine lv_iload_n hx hb dX12_isAttacked_187 rfl (lv_at hl 3 rfl) ?_
    refine lv_iadd hx hb dX12_isAttacked_188 ?_
    obtain ⟨v2, ev, hf⟩ := m_bndE hf
    refine m_top ev ?_
    clear ev
    refine lv_icmp_eq (tgt := 210) hx hb dX12_isAttacked_189 (by decide) (fun cc1 => ?_) (fun cc1 => ?_)
    · replace hf := m_ifT hf cc1
      exact w_isAttacked_210 X hret hself61 hself71 hf hM (lv_sub hl [1, 2, 3, 5, 6] rfl)
    · replace hf := m_ifF hf cc1
      refine lv_iload hx hb dX12_isAttacked_192 (lv_at hl 0 rfl) ?_
      refine lv_iload hx hb dX12_isAttacked_194 (lv_at hl 7 rfl) ?_
      refine lv_iconst (v := (1 : Int32)) hx hb dX12_isAttacked_196 (by decide) ?_
      refine lv_icmp_ne (tgt := 204) hx hb dX12_isAttacked_197 (by decide) (fun cc1 => ?_) (fun cc1 => ?_)
      · replace hf := m_ifF hf cc1
        refine lv_iconst (v := (3 : Int32)) hx hb dX12_isAttacked_204 (by decide) ?_
        exact w_isAttacked_205 X hret hself61 hself71 hf hM (lv_sub hl [1, 2, 3, 5, 6] rfl)
      · replace hf := m_ifT hf cc1
        refine lv_iconst (v := (4 : Int32)) hx hb dX12_isAttacked_200 (by decide) ?_
        refine lv_goto (tgt := 205) hx hb dX12_isAttacked_201 (by decide) ?_
        exact w_isAttacked_205 X hret hself61 hself71 hf hM (lv_sub hl [1, 2, 3, 5, 6] rfl)
def f_isAttacked_154 (self61 : Int32 → Int32 → Int32 → Int32 → (Nat → Int32) → (Nat → Nat → Int32) → Option (Int32 × MS)) (self71 : Int32 → Int32 → Int32 → Int32 → Int32 → (Nat → Int32) → (Nat → Nat → Int32) → Option (Int32 × MS)) (x1 : Int32) (x3 : Int32) (x6 : Int32) (x7 : Int32) (x8 : Int32) (t0 : Int32) (I : Nat → Int32) (A : Nat → Nat → Int32) : Option (Int32 × MS) :=
  m_if (x8 = (1 : Int32)) (
  f_isAttacked_168 self61 self71 x1 x3 t0 x6 x7 x8 I A
  ) (
  m_if (x8 = (2 : Int32)) (
  f_isAttacked_168 self61 self71 x1 x3 t0 x6 x7 x8 I A
  ) (
  f_isAttacked_217 self61 self71 x1 x3 t0 x6 x7 I A
  )
  )

set_option maxRecDepth 100000 in
set_option maxHeartbeats 4000000 in
theorem w_isAttacked_154 {p : Program} {l : Launch} {e : Env} {s : State} {m : MethodId} {args : Array Value} {below : List Frame} {meth : Method} {c : Code} {Q : State → Prop} {D : va_G} {cy ci : ClassId} {h : Nat → Nat} {A0 : Nat → Prop} {o : Int32 × MS} (X : CallFix p m c cX12_isAttacked 10 s args wsX12_isAttacked RX12) (hret : mRi p l e ({ frames := 2, cells := 0, slots := 0, locals := 48 } : Room) s m args below meth c Q cX12_isAttacked D cy ci h A0 .boolean o) {self61 : Int32 → Int32 → Int32 → Int32 → (Nat → Int32) → (Nat → Nat → Int32) → Option (Int32 × MS)} (hself61 : ∀ (x1 : Int32) (x3 : Int32) (x5 : Int32) (x6 : Int32) (I : Nat → Int32) (A : Nat → Nat → Int32) (H : Heap) (locs : List Loc) (ls : Array Slot), self61 x1 x3 x5 x6 I A = some o → mH D cy ci h A0 s H locs I A → lv_has ls 10 [(0, .ref (h 0)), (1, .int x1), (3, .int x3), (5, .int x5), (6, .int x6)] → W p l e ({ frames := 2, cells := 0, slots := 0, locals := 48 } : Room) s m args below meth c H locs 0 0 Q (F0 m 61 ls [])) {self71 : Int32 → Int32 → Int32 → Int32 → Int32 → (Nat → Int32) → (Nat → Nat → Int32) → Option (Int32 × MS)} (hself71 : ∀ (x1 : Int32) (x3 : Int32) (x5 : Int32) (x6 : Int32) (x7 : Int32) (I : Nat → Int32) (A : Nat → Nat → Int32) (H : Heap) (locs : List Loc) (ls : Array Slot), self71 x1 x3 x5 x6 x7 I A = some o → mH D cy ci h A0 s H locs I A → lv_has ls 10 [(0, .ref (h 0)), (1, .int x1), (3, .int x3), (5, .int x5), (6, .int x6), (7, .int x7)] → W p l e ({ frames := 2, cells := 0, slots := 0, locals := 48 } : Room) s m args below meth c H locs 0 0 Q (F0 m 71 ls [])) {x1 : Int32} {x3 : Int32} {x6 : Int32} {x7 : Int32} {x8 : Int32} {t0 : Int32} {I : Nat → Int32} {A : Nat → Nat → Int32} {H : Heap} {locs : List Loc} {ls : Array Slot} (hf : f_isAttacked_154 self61 self71 x1 x3 x6 x7 x8 t0 I A = some o) (hM : mH D cy ci h A0 s H locs I A) (hl : lv_has ls 10 [(0, .ref (h 0)), (1, .int x1), (3, .int x3), (6, .int x6), (7, .int x7), (8, .int x8)]) : W p l e ({ frames := 2, cells := 0, slots := 0, locals := 48 } : Room) s m args below meth c H locs 0 0 Q (F0 m 154 ls [.int t0]) := by
  obtain ⟨hx, hb, hml, hown, hts⟩ := id X
  unfold f_isAttacked_154 at hf
  refine lv_istore (lv' := [(5, .int t0), (0, .ref (h 0)), (1, .int x1), (3, .int x3), (6, .int x6), (7, .int x7), (8, .int x8)]) hx hb dX12_isAttacked_154 hl (by decide) rfl (fun ls hl => ?_)
  refine lv_iload hx hb dX12_isAttacked_156 (lv_at hl 6 rfl) ?_
  refine lv_iconst (v := (1 : Int32)) hx hb dX12_isAttacked_158 (by decide) ?_
  refine lv_icmp_eq (tgt := 168) hx hb dX12_isAttacked_159 (by decide) (fun cc1 => ?_) (fun cc1 => ?_)
  · replace hf := m_ifT hf cc1
    exact w_isAttacked_168 X hret hself61 hself71 hf hM (lv_sub hl [1, 2, 3, 0, 4, 5, 6] rfl)
  · replace hf := m_ifF hf cc1
    refine lv_iload hx hb dX12_isAttacked_162 (lv_at hl 6 rfl) ?_
    refine lv_iconst (v := (2 : Int32)) hx hb dX12_isAttacked_164 (by decide) ?_
    refine lv_icmp_ne (tgt := 217) hx hb dX12_isAttacked_165 (by decide) (fun cc1 => ?_) (fun cc1 => ?_)
    · replace hf := m_ifF hf cc1
      exact w_isAttacked_217 X hret hself61 hself71 hf hM (lv_sub hl [1, 2, 3, 0, 4, 5] rfl)
    · replace hf := m_ifT hf cc1
      exact w_isAttacked_168 X hret hself61 hself71 hf hM (lv_sub hl [1, 2, 3, 0, 4, 5, 6] rfl)
def f_isAttacked_149 (self61 : Int32 → Int32 → Int32 → Int32 → (Nat → Int32) → (Nat → Nat → Int32) → Option (Int32 × MS)) (self71 : Int32 → Int32 → Int32 → Int32 → Int32 → (Nat → Int32) → (Nat → Nat → Int32) → Option (Int32 × MS)) (x1 : Int32) (x3 : Int32) (x6 : Int32) (x7 : Int32) (x8 : Int32) (I : Nat → Int32) (A : Nat → Nat → Int32) : Option (Int32 × MS) :=
  f_isAttacked_154 self61 self71 x1 x3 x6 x7 x8 (1 : Int32) I A

set_option maxRecDepth 100000 in
set_option maxHeartbeats 4000000 in
theorem w_isAttacked_149 {p : Program} {l : Launch} {e : Env} {s : State} {m : MethodId} {args : Array Value} {below : List Frame} {meth : Method} {c : Code} {Q : State → Prop} {D : va_G} {cy ci : ClassId} {h : Nat → Nat} {A0 : Nat → Prop} {o : Int32 × MS} (X : CallFix p m c cX12_isAttacked 10 s args wsX12_isAttacked RX12) (hret : mRi p l e ({ frames := 2, cells := 0, slots := 0, locals := 48 } : Room) s m args below meth c Q cX12_isAttacked D cy ci h A0 .boolean o) {self61 : Int32 → Int32 → Int32 → Int32 → (Nat → Int32) → (Nat → Nat → Int32) → Option (Int32 × MS)} (hself61 : ∀ (x1 : Int32) (x3 : Int32) (x5 : Int32) (x6 : Int32) (I : Nat → Int32) (A : Nat → Nat → Int32) (H : Heap) (locs : List Loc) (ls : Array Slot), self61 x1 x3 x5 x6 I A = some o → mH D cy ci h A0 s H locs I A → lv_has ls 10 [(0, .ref (h 0)), (1, .int x1), (3, .int x3), (5, .int x5), (6, .int x6)] → W p l e ({ frames := 2, cells := 0, slots := 0, locals := 48 } : Room) s m args below meth c H locs 0 0 Q (F0 m 61 ls [])) {self71 : Int32 → Int32 → Int32 → Int32 → Int32 → (Nat → Int32) → (Nat → Nat → Int32) → Option (Int32 × MS)} (hself71 : ∀ (x1 : Int32) (x3 : Int32) (x5 : Int32) (x6 : Int32) (x7 : Int32) (I : Nat → Int32) (A : Nat → Nat → Int32) (H : Heap) (locs : List Loc) (ls : Array Slot), self71 x1 x3 x5 x6 x7 I A = some o → mH D cy ci h A0 s H locs I A → lv_has ls 10 [(0, .ref (h 0)), (1, .int x1), (3, .int x3), (5, .int x5), (6, .int x6), (7, .int x7)] → W p l e ({ frames := 2, cells := 0, slots := 0, locals := 48 } : Room) s m args below meth c H locs 0 0 Q (F0 m 71 ls [])) {x1 : Int32} {x3 : Int32} {x6 : Int32} {x7 : Int32} {x8 : Int32} {I : Nat → Int32} {A : Nat → Nat → Int32} {H : Heap} {locs : List Loc} {ls : Array Slot} (hf : f_isAttacked_149 self61 self71 x1 x3 x6 x7 x8 I A = some o) (hM : mH D cy ci h A0 s H locs I A) (hl : lv_has ls 10 [(0, .ref (h 0)), (1, .int x1), (3, .int x3), (6, .int x6), (7, .int x7), (8, .int x8)]) : W p l e ({ frames := 2, cells := 0, slots := 0, locals := 48 } : Room) s m args below meth c H locs 0 0 Q (F0 m 149 ls []) := by
  obtain ⟨hx, hb, hml, hown, hts⟩ := id X
  unfold f_isAttacked_149 at hf
  refine lv_iconst (v := (1 : Int32)) hx hb dX12_isAttacked_149 (by decide) ?_
  refine lv_goto (tgt := 154) hx hb dX12_isAttacked_150 (by decide) ?_
  exact w_isAttacked_154 X hret hself61 hself71 hf hM (lv_sub hl [0, 1, 2, 3, 4, 5] rfl)
def f_isAttacked_153 (self61 : Int32 → Int32 → Int32 → Int32 → (Nat → Int32) → (Nat → Nat → Int32) → Option (Int32 × MS)) (self71 : Int32 → Int32 → Int32 → Int32 → Int32 → (Nat → Int32) → (Nat → Nat → Int32) → Option (Int32 × MS)) (x1 : Int32) (x3 : Int32) (x6 : Int32) (x7 : Int32) (x8 : Int32) (I : Nat → Int32) (A : Nat → Nat → Int32) : Option (Int32 × MS) :=
  f_isAttacked_154 self61 self71 x1 x3 x6 x7 x8 (0 : Int32) I A

set_option maxRecDepth 100000 in
set_option maxHeartbeats 4000000 in
theorem w_isAttacked_153 {p : Program} {l : Launch} {e : Env} {s : State} {m : MethodId} {args : Array Value} {below : List Frame} {meth : Method} {c : Code} {Q : State → Prop} {D : va_G} {cy ci : ClassId} {h : Nat → Nat} {A0 : Nat → Prop} {o : Int32 × MS} (X : CallFix p m c cX12_isAttacked 10 s args wsX12_isAttacked RX12) (hret : mRi p l e ({ frames := 2, cells := 0, slots := 0, locals := 48 } : Room) s m args below meth c Q cX12_isAttacked D cy ci h A0 .boolean o) {self61 : Int32 → Int32 → Int32 → Int32 → (Nat → Int32) → (Nat → Nat → Int32) → Option (Int32 × MS)} (hself61 : ∀ (x1 : Int32) (x3 : Int32) (x5 : Int32) (x6 : Int32) (I : Nat → Int32) (A : Nat → Nat → Int32) (H : Heap) (locs : List Loc) (ls : Array Slot), self61 x1 x3 x5 x6 I A = some o → mH D cy ci h A0 s H locs I A → lv_has ls 10 [(0, .ref (h 0)), (1, .int x1), (3, .int x3), (5, .int x5), (6, .int x6)] → W p l e ({ frames := 2, cells := 0, slots := 0, locals := 48 } : Room) s m args below meth c H locs 0 0 Q (F0 m 61 ls [])) {self71 : Int32 → Int32 → Int32 → Int32 → Int32 → (Nat → Int32) → (Nat → Nat → Int32) → Option (Int32 × MS)} (hself71 : ∀ (x1 : Int32) (x3 : Int32) (x5 : Int32) (x6 : Int32) (x7 : Int32) (I : Nat → Int32) (A : Nat → Nat → Int32) (H : Heap) (locs : List Loc) (ls : Array Slot), self71 x1 x3 x5 x6 x7 I A = some o → mH D cy ci h A0 s H locs I A → lv_has ls 10 [(0, .ref (h 0)), (1, .int x1), (3, .int x3), (5, .int x5), (6, .int x6), (7, .int x7)] → W p l e ({ frames := 2, cells := 0, slots := 0, locals := 48 } : Room) s m args below meth c H locs 0 0 Q (F0 m 71 ls [])) {x1 : Int32} {x3 : Int32} {x6 : Int32} {x7 : Int32} {x8 : Int32} {I : Nat → Int32} {A : Nat → Nat → Int32} {H : Heap} {locs : List Loc} {ls : Array Slot} (hf : f_isAttacked_153 self61 self71 x1 x3 x6 x7 x8 I A = some o) (hM : mH D cy ci h A0 s H locs I A) (hl : lv_has ls 10 [(0, .ref (h 0)), (1, .int x1), (3, .int x3), (6, .int x6), (7, .int x7), (8, .int x8)]) : W p l e ({ frames := 2, cells := 0, slots := 0, locals := 48 } : Room) s m args below meth c H locs 0 0 Q (F0 m 153 ls []) := by
  obtain ⟨hx, hb, hml, hown, hts⟩ := id X
  unfold f_isAttacked_153 at hf
  refine lv_iconst (v := (0 : Int32)) hx hb dX12_isAttacked_153 (by decide) ?_
  exact w_isAttacked_154 X hret hself61 hself71 hf hM (lv_sub hl [0, 1, 2, 3, 4, 5] rfl)
def f_isAttacked_119 (self61 : Int32 → Int32 → Int32 → Int32 → (Nat → Int32) → (Nat → Nat → Int32) → Option (Int32 × MS)) (self71 : Int32 → Int32 → Int32 → Int32 → Int32 → (Nat → Int32) → (Nat → Nat → Int32) → Option (Int32 × MS)) (x1 : Int32) (x3 : Int32) (x6 : Int32) (x7 : Int32) (x8 : Int32) (I : Nat → Int32) (A : Nat → Nat → Int32) : Option (Int32 × MS) :=
  m_if (x8 ≤ 0) (
  f_isAttacked_153 self61 self71 x1 x3 x6 x7 x8 I A
  ) (
  m_if ((3 : Int32) ≤ x8) (
  f_isAttacked_153 self61 self71 x1 x3 x6 x7 x8 I A
  ) (
  m_cl (f_step x1 x6 x7 I A) (fun r1 Ic1 Ac1 =>
  m_bnd ((6 : Int32) + x3) (fun v2 =>
  m_cl (f_stands r1 v2 Ic1 Ac1) (fun r3 Ic3 Ac3 =>
  m_if (r3 = 0) (
  f_isAttacked_153 self61 self71 x1 x3 x6 x7 x8 Ic3 Ac3
  ) (
  f_isAttacked_149 self61 self71 x1 x3 x6 x7 x8 Ic3 Ac3
  ))))
  )
  )

set_option maxRecDepth 100000 in
set_option maxHeartbeats 4000000 in
theorem w_isAttacked_119 {p : Program} {l : Launch} {e : Env} {s : State} {m : MethodId} {args : Array Value} {below : List Frame} {meth : Method} {c : Code} {Q : State → Prop} {D : va_G} {cy ci : ClassId} {h : Nat → Nat} {A0 : Nat → Prop} {o : Int32 × MS} (X : CallFix p m c cX12_isAttacked 10 s args wsX12_isAttacked RX12) (hret : mRi p l e ({ frames := 2, cells := 0, slots := 0, locals := 48 } : Room) s m args below meth c Q cX12_isAttacked D cy ci h A0 .boolean o) {self61 : Int32 → Int32 → Int32 → Int32 → (Nat → Int32) → (Nat → Nat → Int32) → Option (Int32 × MS)} (hself61 : ∀ (x1 : Int32) (x3 : Int32) (x5 : Int32) (x6 : Int32) (I : Nat → Int32) (A : Nat → Nat → Int32) (H : Heap) (locs : List Loc) (ls : Array Slot), self61 x1 x3 x5 x6 I A = some o → mH D cy ci h A0 s H locs I A → lv_has ls 10 [(0, .ref (h 0)), (1, .int x1), (3, .int x3), (5, .int x5), (6, .int x6)] → W p l e ({ frames := 2, cells := 0, slots := 0, locals := 48 } : Room) s m args below meth c H locs 0 0 Q (F0 m 61 ls [])) {self71 : Int32 → Int32 → Int32 → Int32 → Int32 → (Nat → Int32) → (Nat → Nat → Int32) → Option (Int32 × MS)} (hself71 : ∀ (x1 : Int32) (x3 : Int32) (x5 : Int32) (x6 : Int32) (x7 : Int32) (I : Nat → Int32) (A : Nat → Nat → Int32) (H : Heap) (locs : List Loc) (ls : Array Slot), self71 x1 x3 x5 x6 x7 I A = some o → mH D cy ci h A0 s H locs I A → lv_has ls 10 [(0, .ref (h 0)), (1, .int x1), (3, .int x3), (5, .int x5), (6, .int x6), (7, .int x7)] → W p l e ({ frames := 2, cells := 0, slots := 0, locals := 48 } : Room) s m args below meth c H locs 0 0 Q (F0 m 71 ls [])) {x1 : Int32} {x3 : Int32} {x6 : Int32} {x7 : Int32} {x8 : Int32} {I : Nat → Int32} {A : Nat → Nat → Int32} {H : Heap} {locs : List Loc} {ls : Array Slot} (hf : f_isAttacked_119 self61 self71 x1 x3 x6 x7 x8 I A = some o) (hM : mH D cy ci h A0 s H locs I A) (hl : lv_has ls 10 [(0, .ref (h 0)), (1, .int x1), (3, .int x3), (6, .int x6), (7, .int x7), (8, .int x8)]) : W p l e ({ frames := 2, cells := 0, slots := 0, locals := 48 } : Room) s m args below meth c H locs 0 0 Q (F0 m 119 ls []) := by
  obtain ⟨hx, hb, hml, hown, hts⟩ := id X
  unfold f_isAttacked_119 at hf
  refine lv_iload hx hb dX12_isAttacked_119 (lv_at hl 5 rfl) ?_
  refine lv_if_le (tgt := 153) hx hb dX12_isAttacked_121 (by decide) (fun cc1 => ?_) (fun cc1 => ?_)
  · replace hf := m_ifT hf cc1
    exact w_isAttacked_153 X hret hself61 hself71 hf hM (lv_sub hl [0, 1, 2, 3, 4, 5] rfl)
  · replace hf := m_ifF hf cc1
    refine lv_iload hx hb dX12_isAttacked_124 (lv_at hl 5 rfl) ?_
    refine lv_iconst (v := (3 : Int32)) hx hb dX12_isAttacked_126 (by decide) ?_
    refine lv_icmp_ge (tgt := 153) hx hb dX12_isAttacked_127 (by decide) (fun cc1 => ?_) (fun cc1 => ?_)
    · replace hf := m_ifT hf cc1
      exact w_isAttacked_153 X hret hself61 hself71 hf hM (lv_sub hl [0, 1, 2, 3, 4, 5] rfl)
    · replace hf := m_ifF hf cc1
      refine lv_aload_n hx hb dX12_isAttacked_130 rfl (lv_at hl 0 rfl) ?_
      refine lv_iload_n hx hb dX12_isAttacked_131 rfl (lv_at hl 1 rfl) ?_
      refine lv_iload hx hb dX12_isAttacked_132 (lv_at hl 3 rfl) ?_
      refine lv_iload hx hb dX12_isAttacked_134 (lv_at hl 4 rfl) ?_
      obtain ⟨o1, ho, hf⟩ := m_clE hf
      refine m_callSi X hM (c_step ho) gX12_isAttacked_X12_step rfl ⟨rfl, rfl⟩ hd_step ⟨Nat.le_of_ble_eq_true rfl, Nat.le_of_ble_eq_true rfl⟩ rfl hl.1 rfl (Nat.le_of_ble_eq_true rfl) dX12_isAttacked_136 (fun H locs hM => ?_)
      clear ho
      refine lv_bipush (v := (6 : Int32)) hx hb dX12_isAttacked_139 (by decide) ?_
      refine lv_iload_n hx hb dX12_isAttacked_141 rfl (lv_at hl 2 rfl) ?_
      refine lv_iadd hx hb dX12_isAttacked_142 ?_
      obtain ⟨v2, ev, hf⟩ := m_bndE hf
      refine m_top ev ?_
      clear ev
      obtain ⟨o3, ho, hf⟩ := m_clE hf
      refine m_callVi X hM (c_stands ho) gX12_isAttacked_X12_stands rfl ⟨rfl, rfl⟩ hd_stands ⟨Nat.le_of_ble_eq_true rfl, Nat.le_of_ble_eq_true rfl⟩ rfl hl.1 rfl (Nat.le_of_ble_eq_true rfl) dX12_isAttacked_143 (fun H locs hM => ?_)
      clear ho
      refine lv_if_eq (tgt := 153) hx hb dX12_isAttacked_146 (by decide) (fun cc1 => ?_) (fun cc1 => ?_)
      · replace hf := m_ifT hf cc1
        exact w_isAttacked_153 X hret hself61 hself71 hf hM (lv_sub hl [0, 1, 2, 3, 4, 5] rfl)
      · replace hf := m_ifF hf cc1
        exact w_isAttacked_149 X hret hself61 hself71 hf hM (lv_sub hl [0, 1, 2, 3, 4, 5] rfl)
def f_isAttacked_71s (self61 : Int32 → Int32 → Int32 → Int32 → (Nat → Int32) → (Nat → Nat → Int32) → Option (Int32 × MS)) (self71 : Int32 → Int32 → Int32 → Int32 → Int32 → (Nat → Int32) → (Nat → Nat → Int32) → Option (Int32 × MS)) (x1 : Int32) (x3 : Int32) (x5 : Int32) (x6 : Int32) (x7 : Int32) (I : Nat → Int32) (A : Nat → Nat → Int32) : Option (Int32 × MS) :=
  m_if ((3 : Int32) ≤ x7) (
  m_bnd (x6 + (1 : Int32)) (fun v1 =>
  self61 x1 x3 x5 v1 I A)
  ) (
  m_bnd (x6 * x6) (fun v2 =>
  m_bnd (x7 * x7) (fun v3 =>
  m_bnd (v2 + v3) (fun v4 =>
  m_if (x5 = 0) (
  m_if (v4 = (5 : Int32)) (
  m_cl (f_step x1 x6 x7 I A) (fun r5 Ic5 Ac5 =>
  m_bnd ((2 : Int32) + x3) (fun v6 =>
  m_cl (f_stands r5 v6 Ic5 Ac5) (fun r7 Ic7 Ac7 =>
  m_if (r7 = 0) (
  f_isAttacked_119 self61 self71 x1 x3 x6 x7 v4 Ic7 Ac7
  ) (
  f_isAttacked_149 self61 self71 x1 x3 x6 x7 v4 Ic7 Ac7
  ))))
  ) (
  f_isAttacked_119 self61 self71 x1 x3 x6 x7 v4 I A
  )
  ) (
  f_isAttacked_149 self61 self71 x1 x3 x6 x7 v4 I A
  ))))
  )

set_option maxRecDepth 100000 in
set_option maxHeartbeats 4000000 in
theorem ws_isAttacked_71 {p : Program} {l : Launch} {e : Env} {s : State} {m : MethodId} {args : Array Value} {below : List Frame} {meth : Method} {c : Code} {Q : State → Prop} {D : va_G} {cy ci : ClassId} {h : Nat → Nat} {A0 : Nat → Prop} {o : Int32 × MS} (X : CallFix p m c cX12_isAttacked 10 s args wsX12_isAttacked RX12) (hret : mRi p l e ({ frames := 2, cells := 0, slots := 0, locals := 48 } : Room) s m args below meth c Q cX12_isAttacked D cy ci h A0 .boolean o) {self61 : Int32 → Int32 → Int32 → Int32 → (Nat → Int32) → (Nat → Nat → Int32) → Option (Int32 × MS)} (hself61 : ∀ (x1 : Int32) (x3 : Int32) (x5 : Int32) (x6 : Int32) (I : Nat → Int32) (A : Nat → Nat → Int32) (H : Heap) (locs : List Loc) (ls : Array Slot), self61 x1 x3 x5 x6 I A = some o → mH D cy ci h A0 s H locs I A → lv_has ls 10 [(0, .ref (h 0)), (1, .int x1), (3, .int x3), (5, .int x5), (6, .int x6)] → W p l e ({ frames := 2, cells := 0, slots := 0, locals := 48 } : Room) s m args below meth c H locs 0 0 Q (F0 m 61 ls [])) {self71 : Int32 → Int32 → Int32 → Int32 → Int32 → (Nat → Int32) → (Nat → Nat → Int32) → Option (Int32 × MS)} (hself71 : ∀ (x1 : Int32) (x3 : Int32) (x5 : Int32) (x6 : Int32) (x7 : Int32) (I : Nat → Int32) (A : Nat → Nat → Int32) (H : Heap) (locs : List Loc) (ls : Array Slot), self71 x1 x3 x5 x6 x7 I A = some o → mH D cy ci h A0 s H locs I A → lv_has ls 10 [(0, .ref (h 0)), (1, .int x1), (3, .int x3), (5, .int x5), (6, .int x6), (7, .int x7)] → W p l e ({ frames := 2, cells := 0, slots := 0, locals := 48 } : Room) s m args below meth c H locs 0 0 Q (F0 m 71 ls [])) {x1 : Int32} {x3 : Int32} {x5 : Int32} {x6 : Int32} {x7 : Int32} {I : Nat → Int32} {A : Nat → Nat → Int32} {H : Heap} {locs : List Loc} {ls : Array Slot} (hf : f_isAttacked_71s self61 self71 x1 x3 x5 x6 x7 I A = some o) (hM : mH D cy ci h A0 s H locs I A) (hl : lv_has ls 10 [(0, .ref (h 0)), (1, .int x1), (3, .int x3), (5, .int x5), (6, .int x6), (7, .int x7)]) : W p l e ({ frames := 2, cells := 0, slots := 0, locals := 48 } : Room) s m args below meth c H locs 0 0 Q (F0 m 71 ls []) := by
  obtain ⟨hx, hb, hml, hown, hts⟩ := id X
  unfold f_isAttacked_71s at hf
  refine lv_iload hx hb dX12_isAttacked_71 (lv_at hl 5 rfl) ?_
  refine lv_iconst (v := (3 : Int32)) hx hb dX12_isAttacked_73 (by decide) ?_
  refine lv_icmp_ge (tgt := 223) hx hb dX12_isAttacked_74 (by decide) (fun cc1 => ?_) (fun cc1 => ?_)
  · replace hf := m_ifT hf cc1
    obtain ⟨v1, ev, hf⟩ := m_bndE hf
    refine lv_iinc (v := v1) (lv' := [(6, .int v1), (0, .ref (h 0)), (1, .int x1), (3, .int x3), (5, .int x5), (7, .int x7)]) hx hb dX12_isAttacked_223 hl (k := 4) rfl (by rw [ev]; rfl) (by decide) rfl (fun ls hl => ?_)
    clear ev
    refine lv_goto (tgt := 61) hx hb dX12_isAttacked_226 (by decide) ?_
    exact hself61 _ _ _ _ _ _ _ _ _ hf hM (lv_sub hl [1, 2, 3, 4, 0] rfl)
  · replace hf := m_ifF hf cc1
    refine lv_iload hx hb dX12_isAttacked_77 (lv_at hl 4 rfl) ?_
    refine lv_iload hx hb dX12_isAttacked_79 (lv_at hl 4 rfl) ?_
    refine lv_imul hx hb dX12_isAttacked_81 ?_
    obtain ⟨v2, ev, hf⟩ := m_bndE hf
    refine m_top ev ?_
    clear ev
    refine lv_iload hx hb dX12_isAttacked_82 (lv_at hl 5 rfl) ?_
    refine lv_iload hx hb dX12_isAttacked_84 (lv_at hl 5 rfl) ?_
    refine lv_imul hx hb dX12_isAttacked_86 ?_
    obtain ⟨v3, ev, hf⟩ := m_bndE hf
    refine m_top ev ?_
    clear ev
    refine lv_iadd hx hb dX12_isAttacked_87 ?_
    obtain ⟨v4, ev, hf⟩ := m_bndE hf
    refine m_top ev ?_
    clear ev
    refine lv_istore (lv' := [(8, .int v4), (0, .ref (h 0)), (1, .int x1), (3, .int x3), (5, .int x5), (6, .int x6), (7, .int x7)]) hx hb dX12_isAttacked_88 hl (by decide) rfl (fun ls hl => ?_)
    refine lv_iload hx hb dX12_isAttacked_90 (lv_at hl 4 rfl) ?_
    refine lv_if_ne (tgt := 149) hx hb dX12_isAttacked_92 (by decide) (fun cc1 => ?_) (fun cc1 => ?_)
    · replace hf := m_ifF hf cc1
      exact w_isAttacked_149 X hret hself61 hself71 hf hM (lv_sub hl [1, 2, 3, 5, 6, 0] rfl)
    · replace hf := m_ifT hf cc1
      refine lv_iload hx hb dX12_isAttacked_95 (lv_at hl 0 rfl) ?_
      refine lv_iconst (v := (5 : Int32)) hx hb dX12_isAttacked_97 (by decide) ?_
      refine lv_icmp_ne (tgt := 119) hx hb dX12_isAttacked_98 (by decide) (fun cc1 => ?_) (fun cc1 => ?_)
      · replace hf := m_ifF hf cc1
        exact w_isAttacked_119 X hret hself61 hself71 hf hM (lv_sub hl [1, 2, 3, 5, 6, 0] rfl)
      · replace hf := m_ifT hf cc1
        refine lv_aload_n hx hb dX12_isAttacked_101 rfl (lv_at hl 1 rfl) ?_
        refine lv_iload_n hx hb dX12_isAttacked_102 rfl (lv_at hl 2 rfl) ?_
        refine lv_iload hx hb dX12_isAttacked_103 (lv_at hl 5 rfl) ?_
        refine lv_iload hx hb dX12_isAttacked_105 (lv_at hl 6 rfl) ?_
        obtain ⟨o5, ho, hf⟩ := m_clE hf
        refine m_callSi X hM (c_step ho) gX12_isAttacked_X12_step rfl ⟨rfl, rfl⟩ hd_step ⟨Nat.le_of_ble_eq_true rfl, Nat.le_of_ble_eq_true rfl⟩ rfl hl.1 rfl (Nat.le_of_ble_eq_true rfl) dX12_isAttacked_107 (fun H locs hM => ?_)
        clear ho
        refine lv_iconst (v := (2 : Int32)) hx hb dX12_isAttacked_110 (by decide) ?_
        refine lv_iload_n hx hb dX12_isAttacked_111 rfl (lv_at hl 3 rfl) ?_
        refine lv_iadd hx hb dX12_isAttacked_112 ?_
        obtain ⟨v6, ev, hf⟩ := m_bndE hf
        refine m_top ev ?_
        clear ev
        obtain ⟨o7, ho, hf⟩ := m_clE hf
        refine m_callVi X hM (c_stands ho) gX12_isAttacked_X12_stands rfl ⟨rfl, rfl⟩ hd_stands ⟨Nat.le_of_ble_eq_true rfl, Nat.le_of_ble_eq_true rfl⟩ rfl hl.1 rfl (Nat.le_of_ble_eq_true rfl) dX12_isAttacked_113 (fun H locs hM => ?_)
        clear ho
        refine lv_if_ne (tgt := 149) hx hb dX12_isAttacked_116 (by decide) (fun cc1 => ?_) (fun cc1 => ?_)
        · replace hf := m_ifF hf cc1
          exact w_isAttacked_149 X hret hself61 hself71 hf hM (lv_sub hl [1, 2, 3, 5, 6, 0] rfl)
        · replace hf := m_ifT hf cc1
          exact w_isAttacked_119 X hret hself61 hself71 hf hM (lv_sub hl [1, 2, 3, 5, 6, 0] rfl)
def f_isAttacked_71 (self61 : Int32 → Int32 → Int32 → Int32 → (Nat → Int32) → (Nat → Nat → Int32) → Option (Int32 × MS)) : Nat → Int32 → Int32 → Int32 → Int32 → Int32 → (Nat → Int32) → (Nat → Nat → Int32) → Option (Int32 × MS)
  | 0 => fun _ _ _ _ _ _ _ => none
  | n + 1 => f_isAttacked_71s self61 (f_isAttacked_71 self61 n)
theorem w_isAttacked_71 {p : Program} {l : Launch} {e : Env} {s : State} {m : MethodId} {args : Array Value} {below : List Frame} {meth : Method} {c : Code} {Q : State → Prop} {D : va_G} {cy ci : ClassId} {h : Nat → Nat} {A0 : Nat → Prop} {o : Int32 × MS} (X : CallFix p m c cX12_isAttacked 10 s args wsX12_isAttacked RX12) (hret : mRi p l e ({ frames := 2, cells := 0, slots := 0, locals := 48 } : Room) s m args below meth c Q cX12_isAttacked D cy ci h A0 .boolean o) {self61 : Int32 → Int32 → Int32 → Int32 → (Nat → Int32) → (Nat → Nat → Int32) → Option (Int32 × MS)} (hself61 : ∀ (x1 : Int32) (x3 : Int32) (x5 : Int32) (x6 : Int32) (I : Nat → Int32) (A : Nat → Nat → Int32) (H : Heap) (locs : List Loc) (ls : Array Slot), self61 x1 x3 x5 x6 I A = some o → mH D cy ci h A0 s H locs I A → lv_has ls 10 [(0, .ref (h 0)), (1, .int x1), (3, .int x3), (5, .int x5), (6, .int x6)] → W p l e ({ frames := 2, cells := 0, slots := 0, locals := 48 } : Room) s m args below meth c H locs 0 0 Q (F0 m 61 ls [])) (n : Nat) : ∀ (x1 : Int32) (x3 : Int32) (x5 : Int32) (x6 : Int32) (x7 : Int32) (I : Nat → Int32) (A : Nat → Nat → Int32) (H : Heap) (locs : List Loc) (ls : Array Slot), f_isAttacked_71 self61 n x1 x3 x5 x6 x7 I A = some o → mH D cy ci h A0 s H locs I A → lv_has ls 10 [(0, .ref (h 0)), (1, .int x1), (3, .int x3), (5, .int x5), (6, .int x6), (7, .int x7)] → W p l e ({ frames := 2, cells := 0, slots := 0, locals := 48 } : Room) s m args below meth c H locs 0 0 Q (F0 m 71 ls []) := by
  induction n with
  | zero => intro x1 x3 x5 x6 x7 I A H locs ls hf; cases hf
  | succ n ih => intro x1 x3 x5 x6 x7 I A H locs ls hf hM hl; exact ws_isAttacked_71 X hret hself61 (self71 := f_isAttacked_71 self61 n) ih hf hM hl
def f_isAttacked_61s (self61 : Int32 → Int32 → Int32 → Int32 → (Nat → Int32) → (Nat → Nat → Int32) → Option (Int32 × MS)) (x1 : Int32) (x3 : Int32) (x5 : Int32) (x6 : Int32) (I : Nat → Int32) (A : Nat → Nat → Int32) : Option (Int32 × MS) :=
  m_if ((3 : Int32) ≤ x6) (
  m_chk (vp_nar .boolean x5 = x5) (some (x5, (I, A)))
  ) (
  f_isAttacked_71 self61 mFuel x1 x3 x5 x6 (-2 : Int32) I A
  )

set_option maxRecDepth 100000 in
set_option maxHeartbeats 4000000 in
theorem ws_isAttacked_61 {p : Program} {l : Launch} {e : Env} {s : State} {m : MethodId} {args : Array Value} {below : List Frame} {meth : Method} {c : Code} {Q : State → Prop} {D : va_G} {cy ci : ClassId} {h : Nat → Nat} {A0 : Nat → Prop} {o : Int32 × MS} (X : CallFix p m c cX12_isAttacked 10 s args wsX12_isAttacked RX12) (hret : mRi p l e ({ frames := 2, cells := 0, slots := 0, locals := 48 } : Room) s m args below meth c Q cX12_isAttacked D cy ci h A0 .boolean o) {self61 : Int32 → Int32 → Int32 → Int32 → (Nat → Int32) → (Nat → Nat → Int32) → Option (Int32 × MS)} (hself61 : ∀ (x1 : Int32) (x3 : Int32) (x5 : Int32) (x6 : Int32) (I : Nat → Int32) (A : Nat → Nat → Int32) (H : Heap) (locs : List Loc) (ls : Array Slot), self61 x1 x3 x5 x6 I A = some o → mH D cy ci h A0 s H locs I A → lv_has ls 10 [(0, .ref (h 0)), (1, .int x1), (3, .int x3), (5, .int x5), (6, .int x6)] → W p l e ({ frames := 2, cells := 0, slots := 0, locals := 48 } : Room) s m args below meth c H locs 0 0 Q (F0 m 61 ls [])) {x1 : Int32} {x3 : Int32} {x5 : Int32} {x6 : Int32} {I : Nat → Int32} {A : Nat → Nat → Int32} {H : Heap} {locs : List Loc} {ls : Array Slot} (hf : f_isAttacked_61s self61 x1 x3 x5 x6 I A = some o) (hM : mH D cy ci h A0 s H locs I A) (hl : lv_has ls 10 [(0, .ref (h 0)), (1, .int x1), (3, .int x3), (5, .int x5), (6, .int x6)]) : W p l e ({ frames := 2, cells := 0, slots := 0, locals := 48 } : Room) s m args below meth c H locs 0 0 Q (F0 m 61 ls []) := by
  obtain ⟨hx, hb, hml, hown, hts⟩ := id X
  unfold f_isAttacked_61s at hf
  refine lv_iload hx hb dX12_isAttacked_61 (lv_at hl 4 rfl) ?_
  refine lv_iconst (v := (3 : Int32)) hx hb dX12_isAttacked_63 (by decide) ?_
  refine lv_icmp_ge (tgt := 229) hx hb dX12_isAttacked_64 (by decide) (fun cc1 => ?_) (fun cc1 => ?_)
  · replace hf := m_ifT hf cc1
    refine lv_iload hx hb dX12_isAttacked_229 (lv_at hl 3 rfl) ?_
    obtain ⟨cd, hf⟩ := m_chkE hf
    cases hf
    exact hret H locs _ ls hM (m_nb cd) dX12_isAttacked_231
  · replace hf := m_ifF hf cc1
    refine lv_bipush (v := (-2 : Int32)) hx hb dX12_isAttacked_67 (by decide) ?_
    refine lv_istore (lv' := [(7, .int (-2 : Int32)), (0, .ref (h 0)), (1, .int x1), (3, .int x3), (5, .int x5), (6, .int x6)]) hx hb dX12_isAttacked_69 hl (by decide) rfl (fun ls hl => ?_)
    exact w_isAttacked_71 X hret hself61 _ _ _ _ _ _ _ _ _ _ _ hf hM (lv_sub hl [1, 2, 3, 4, 5, 0] rfl)
def f_isAttacked_61 : Nat → Int32 → Int32 → Int32 → Int32 → (Nat → Int32) → (Nat → Nat → Int32) → Option (Int32 × MS)
  | 0 => fun _ _ _ _ _ _ => none
  | n + 1 => f_isAttacked_61s (f_isAttacked_61 n)
theorem w_isAttacked_61 {p : Program} {l : Launch} {e : Env} {s : State} {m : MethodId} {args : Array Value} {below : List Frame} {meth : Method} {c : Code} {Q : State → Prop} {D : va_G} {cy ci : ClassId} {h : Nat → Nat} {A0 : Nat → Prop} {o : Int32 × MS} (X : CallFix p m c cX12_isAttacked 10 s args wsX12_isAttacked RX12) (hret : mRi p l e ({ frames := 2, cells := 0, slots := 0, locals := 48 } : Room) s m args below meth c Q cX12_isAttacked D cy ci h A0 .boolean o) (n : Nat) : ∀ (x1 : Int32) (x3 : Int32) (x5 : Int32) (x6 : Int32) (I : Nat → Int32) (A : Nat → Nat → Int32) (H : Heap) (locs : List Loc) (ls : Array Slot), f_isAttacked_61 n x1 x3 x5 x6 I A = some o → mH D cy ci h A0 s H locs I A → lv_has ls 10 [(0, .ref (h 0)), (1, .int x1), (3, .int x3), (5, .int x5), (6, .int x6)] → W p l e ({ frames := 2, cells := 0, slots := 0, locals := 48 } : Room) s m args below meth c H locs 0 0 Q (F0 m 61 ls []) := by
  induction n with
  | zero => intro x1 x3 x5 x6 I A H locs ls hf; cases hf
  | succ n ih => intro x1 x3 x5 x6 I A H locs ls hf hM hl; exact ws_isAttacked_61 X hret (self61 := f_isAttacked_61 n) ih hf hM hl
def f_isAttacked_55 (x1 : Int32) (x3 : Int32) (t0 : Int32) (I : Nat → Int32) (A : Nat → Nat → Int32) : Option (Int32 × MS) :=
  f_isAttacked_61 mFuel x1 x3 t0 (-2 : Int32) I A

set_option maxRecDepth 100000 in
set_option maxHeartbeats 4000000 in
theorem w_isAttacked_55 {p : Program} {l : Launch} {e : Env} {s : State} {m : MethodId} {args : Array Value} {below : List Frame} {meth : Method} {c : Code} {Q : State → Prop} {D : va_G} {cy ci : ClassId} {h : Nat → Nat} {A0 : Nat → Prop} {o : Int32 × MS} (X : CallFix p m c cX12_isAttacked 10 s args wsX12_isAttacked RX12) (hret : mRi p l e ({ frames := 2, cells := 0, slots := 0, locals := 48 } : Room) s m args below meth c Q cX12_isAttacked D cy ci h A0 .boolean o) {x1 : Int32} {x3 : Int32} {t0 : Int32} {I : Nat → Int32} {A : Nat → Nat → Int32} {H : Heap} {locs : List Loc} {ls : Array Slot} (hf : f_isAttacked_55 x1 x3 t0 I A = some o) (hM : mH D cy ci h A0 s H locs I A) (hl : lv_has ls 10 [(0, .ref (h 0)), (1, .int x1), (3, .int x3)]) : W p l e ({ frames := 2, cells := 0, slots := 0, locals := 48 } : Room) s m args below meth c H locs 0 0 Q (F0 m 55 ls [.int t0]) := by
  obtain ⟨hx, hb, hml, hown, hts⟩ := id X
  unfold f_isAttacked_55 at hf
  refine lv_istore (lv' := [(5, .int t0), (0, .ref (h 0)), (1, .int x1), (3, .int x3)]) hx hb dX12_isAttacked_55 hl (by decide) rfl (fun ls hl => ?_)
  refine lv_bipush (v := (-2 : Int32)) hx hb dX12_isAttacked_57 (by decide) ?_
  refine lv_istore (lv' := [(6, .int (-2 : Int32)), (5, .int t0), (0, .ref (h 0)), (1, .int x1), (3, .int x3)]) hx hb dX12_isAttacked_59 hl (by decide) rfl (fun ls hl => ?_)
  exact w_isAttacked_61 X hret _ _ _ _ _ _ _ _ _ _ hf hM (lv_sub hl [2, 3, 4, 1, 0] rfl)
def f_isAttacked_50 (x1 : Int32) (x3 : Int32) (I : Nat → Int32) (A : Nat → Nat → Int32) : Option (Int32 × MS) :=
  f_isAttacked_55 x1 x3 (1 : Int32) I A

set_option maxRecDepth 100000 in
set_option maxHeartbeats 4000000 in
theorem w_isAttacked_50 {p : Program} {l : Launch} {e : Env} {s : State} {m : MethodId} {args : Array Value} {below : List Frame} {meth : Method} {c : Code} {Q : State → Prop} {D : va_G} {cy ci : ClassId} {h : Nat → Nat} {A0 : Nat → Prop} {o : Int32 × MS} (X : CallFix p m c cX12_isAttacked 10 s args wsX12_isAttacked RX12) (hret : mRi p l e ({ frames := 2, cells := 0, slots := 0, locals := 48 } : Room) s m args below meth c Q cX12_isAttacked D cy ci h A0 .boolean o) {x1 : Int32} {x3 : Int32} {I : Nat → Int32} {A : Nat → Nat → Int32} {H : Heap} {locs : List Loc} {ls : Array Slot} (hf : f_isAttacked_50 x1 x3 I A = some o) (hM : mH D cy ci h A0 s H locs I A) (hl : lv_has ls 10 [(0, .ref (h 0)), (1, .int x1), (3, .int x3)]) : W p l e ({ frames := 2, cells := 0, slots := 0, locals := 48 } : Room) s m args below meth c H locs 0 0 Q (F0 m 50 ls []) := by
  obtain ⟨hx, hb, hml, hown, hts⟩ := id X
  unfold f_isAttacked_50 at hf
  refine lv_iconst (v := (1 : Int32)) hx hb dX12_isAttacked_50 (by decide) ?_
  refine lv_goto (tgt := 55) hx hb dX12_isAttacked_51 (by decide) ?_
  exact w_isAttacked_55 X hret hf hM (lv_sub hl [0, 1, 2] rfl)
def f_isAttacked_14 (x1 : Int32) (x3 : Int32) (t0 : Int32) (I : Nat → Int32) (A : Nat → Nat → Int32) : Option (Int32 × MS) :=
  m_cl (f_step x1 (-1 : Int32) t0 I A) (fun r1 Ic1 Ac1 =>
  m_bnd ((1 : Int32) + x3) (fun v2 =>
  m_cl (f_stands r1 v2 Ic1 Ac1) (fun r3 Ic3 Ac3 =>
  m_if (r3 = 0) (
  m_cl (f_step x1 (1 : Int32) t0 Ic3 Ac3) (fun r4 Ic4 Ac4 =>
  m_bnd ((1 : Int32) + x3) (fun v5 =>
  m_cl (f_stands r4 v5 Ic4 Ac4) (fun r6 Ic6 Ac6 =>
  m_if (r6 = 0) (
  f_isAttacked_55 x1 x3 (0 : Int32) Ic6 Ac6
  ) (
  f_isAttacked_50 x1 x3 Ic6 Ac6
  ))))
  ) (
  f_isAttacked_50 x1 x3 Ic3 Ac3
  ))))

set_option maxRecDepth 100000 in
set_option maxHeartbeats 4000000 in
theorem w_isAttacked_14 {p : Program} {l : Launch} {e : Env} {s : State} {m : MethodId} {args : Array Value} {below : List Frame} {meth : Method} {c : Code} {Q : State → Prop} {D : va_G} {cy ci : ClassId} {h : Nat → Nat} {A0 : Nat → Prop} {o : Int32 × MS} (X : CallFix p m c cX12_isAttacked 10 s args wsX12_isAttacked RX12) (hret : mRi p l e ({ frames := 2, cells := 0, slots := 0, locals := 48 } : Room) s m args below meth c Q cX12_isAttacked D cy ci h A0 .boolean o) {x1 : Int32} {x3 : Int32} {t0 : Int32} {I : Nat → Int32} {A : Nat → Nat → Int32} {H : Heap} {locs : List Loc} {ls : Array Slot} (hf : f_isAttacked_14 x1 x3 t0 I A = some o) (hM : mH D cy ci h A0 s H locs I A) (hl : lv_has ls 10 [(0, .ref (h 0)), (1, .int x1), (3, .int x3)]) : W p l e ({ frames := 2, cells := 0, slots := 0, locals := 48 } : Room) s m args below meth c H locs 0 0 Q (F0 m 14 ls [.int t0]) := by
  obtain ⟨hx, hb, hml, hown, hts⟩ := id X
  unfold f_isAttacked_14 at hf
  refine lv_istore (lv' := [(4, .int t0), (0, .ref (h 0)), (1, .int x1), (3, .int x3)]) hx hb dX12_isAttacked_14 hl (by decide) rfl (fun ls hl => ?_)
  refine lv_aload_n hx hb dX12_isAttacked_16 rfl (lv_at hl 1 rfl) ?_
  refine lv_iload_n hx hb dX12_isAttacked_17 rfl (lv_at hl 2 rfl) ?_
  refine lv_iconst (v := (-1 : Int32)) hx hb dX12_isAttacked_18 (by decide) ?_
  refine lv_iload hx hb dX12_isAttacked_19 (lv_at hl 0 rfl) ?_
  obtain ⟨o1, ho, hf⟩ := m_clE hf
  refine m_callSi X hM (c_step ho) gX12_isAttacked_X12_step rfl ⟨rfl, rfl⟩ hd_step ⟨Nat.le_of_ble_eq_true rfl, Nat.le_of_ble_eq_true rfl⟩ rfl hl.1 rfl (Nat.le_of_ble_eq_true rfl) dX12_isAttacked_21 (fun H locs hM => ?_)
  clear ho
  refine lv_iconst (v := (1 : Int32)) hx hb dX12_isAttacked_24 (by decide) ?_
  refine lv_iload_n hx hb dX12_isAttacked_25 rfl (lv_at hl 3 rfl) ?_
  refine lv_iadd hx hb dX12_isAttacked_26 ?_
  obtain ⟨v2, ev, hf⟩ := m_bndE hf
  refine m_top ev ?_
  clear ev
  obtain ⟨o3, ho, hf⟩ := m_clE hf
  refine m_callVi X hM (c_stands ho) gX12_isAttacked_X12_stands rfl ⟨rfl, rfl⟩ hd_stands ⟨Nat.le_of_ble_eq_true rfl, Nat.le_of_ble_eq_true rfl⟩ rfl hl.1 rfl (Nat.le_of_ble_eq_true rfl) dX12_isAttacked_27 (fun H locs hM => ?_)
  clear ho
  refine lv_if_ne (tgt := 50) hx hb dX12_isAttacked_30 (by decide) (fun cc1 => ?_) (fun cc1 => ?_)
  · replace hf := m_ifF hf cc1
    exact w_isAttacked_50 X hret hf hM (lv_sub hl [1, 2, 3] rfl)
  · replace hf := m_ifT hf cc1
    refine lv_aload_n hx hb dX12_isAttacked_33 rfl (lv_at hl 1 rfl) ?_
    refine lv_iload_n hx hb dX12_isAttacked_34 rfl (lv_at hl 2 rfl) ?_
    refine lv_iconst (v := (1 : Int32)) hx hb dX12_isAttacked_35 (by decide) ?_
    refine lv_iload hx hb dX12_isAttacked_36 (lv_at hl 0 rfl) ?_
    obtain ⟨o4, ho, hf⟩ := m_clE hf
    refine m_callSi X hM (c_step ho) gX12_isAttacked_X12_step rfl ⟨rfl, rfl⟩ hd_step ⟨Nat.le_of_ble_eq_true rfl, Nat.le_of_ble_eq_true rfl⟩ rfl hl.1 rfl (Nat.le_of_ble_eq_true rfl) dX12_isAttacked_38 (fun H locs hM => ?_)
    clear ho
    refine lv_iconst (v := (1 : Int32)) hx hb dX12_isAttacked_41 (by decide) ?_
    refine lv_iload_n hx hb dX12_isAttacked_42 rfl (lv_at hl 3 rfl) ?_
    refine lv_iadd hx hb dX12_isAttacked_43 ?_
    obtain ⟨v5, ev, hf⟩ := m_bndE hf
    refine m_top ev ?_
    clear ev
    obtain ⟨o6, ho, hf⟩ := m_clE hf
    refine m_callVi X hM (c_stands ho) gX12_isAttacked_X12_stands rfl ⟨rfl, rfl⟩ hd_stands ⟨Nat.le_of_ble_eq_true rfl, Nat.le_of_ble_eq_true rfl⟩ rfl hl.1 rfl (Nat.le_of_ble_eq_true rfl) dX12_isAttacked_44 (fun H locs hM => ?_)
    clear ho
    refine lv_if_eq (tgt := 54) hx hb dX12_isAttacked_47 (by decide) (fun cc1 => ?_) (fun cc1 => ?_)
    · replace hf := m_ifT hf cc1
      refine lv_iconst (v := (0 : Int32)) hx hb dX12_isAttacked_54 (by decide) ?_
      exact w_isAttacked_55 X hret hf hM (lv_sub hl [1, 2, 3] rfl)
    · replace hf := m_ifF hf cc1
      exact w_isAttacked_50 X hret hf hM (lv_sub hl [1, 2, 3] rfl)
def f_isAttacked_0 (x1 : Int32) (x2 : Int32) (I : Nat → Int32) (A : Nat → Nat → Int32) : Option (Int32 × MS) :=
  m_bnd ((8 : Int32) * x2) (fun v1 =>
  m_if (x2 = 0) (
  f_isAttacked_14 x1 v1 (-1 : Int32) I A
  ) (
  f_isAttacked_14 x1 v1 (1 : Int32) I A
  ))

set_option maxRecDepth 100000 in
set_option maxHeartbeats 4000000 in
theorem w_isAttacked_0 {p : Program} {l : Launch} {e : Env} {s : State} {m : MethodId} {args : Array Value} {below : List Frame} {meth : Method} {c : Code} {Q : State → Prop} {D : va_G} {cy ci : ClassId} {h : Nat → Nat} {A0 : Nat → Prop} {o : Int32 × MS} (X : CallFix p m c cX12_isAttacked 10 s args wsX12_isAttacked RX12) (hret : mRi p l e ({ frames := 2, cells := 0, slots := 0, locals := 48 } : Room) s m args below meth c Q cX12_isAttacked D cy ci h A0 .boolean o) {x1 : Int32} {x2 : Int32} {I : Nat → Int32} {A : Nat → Nat → Int32} {H : Heap} {locs : List Loc} {ls : Array Slot} (hf : f_isAttacked_0 x1 x2 I A = some o) (hM : mH D cy ci h A0 s H locs I A) (hl : lv_has ls 10 [(0, .ref (h 0)), (1, .int x1), (2, .int x2)]) : W p l e ({ frames := 2, cells := 0, slots := 0, locals := 48 } : Room) s m args below meth c H locs 0 0 Q (F0 m 0 ls []) := by
  obtain ⟨hx, hb, hml, hown, hts⟩ := id X
  unfold f_isAttacked_0 at hf
  refine lv_bipush (v := (8 : Int32)) hx hb dX12_isAttacked_0 (by decide) ?_
  refine lv_iload_n hx hb dX12_isAttacked_2 rfl (lv_at hl 2 rfl) ?_
  refine lv_imul hx hb dX12_isAttacked_3 ?_
  obtain ⟨v1, ev, hf⟩ := m_bndE hf
  refine m_top ev ?_
  clear ev
  refine lv_istore_n (lv' := [(3, .int v1), (0, .ref (h 0)), (1, .int x1), (2, .int x2)]) hx hb dX12_isAttacked_4 rfl hl (by decide) rfl (fun ls hl => ?_)
  refine lv_iload_n hx hb dX12_isAttacked_5 rfl (lv_at hl 3 rfl) ?_
  refine lv_if_ne (tgt := 13) hx hb dX12_isAttacked_6 (by decide) (fun cc1 => ?_) (fun cc1 => ?_)
  · replace hf := m_ifF hf cc1
    refine lv_iconst (v := (1 : Int32)) hx hb dX12_isAttacked_13 (by decide) ?_
    exact w_isAttacked_14 X hret hf hM (lv_sub hl [1, 2, 0] rfl)
  · replace hf := m_ifT hf cc1
    refine lv_iconst (v := (-1 : Int32)) hx hb dX12_isAttacked_9 (by decide) ?_
    refine lv_goto (tgt := 14) hx hb dX12_isAttacked_10 (by decide) ?_
    exact w_isAttacked_14 X hret hf hM (lv_sub hl [1, 2, 0] rfl)
def f_isAttacked (x1 : Int32) (x2 : Int32) (I : Nat → Int32) (A : Nat → Nat → Int32) : Option (Int32 × MS) := f_isAttacked_0 x1 x2 I A
theorem c_isAttacked {l : Launch} {D : va_G} {cy ci : ClassId} {h : Nat → Nat} {x1 : Int32} {x2 : Int32} {I : Nat → Int32} {A : Nat → Nat → Int32} {o : Int32 × MS} (hf : f_isAttacked x1 x2 I A = some o) : mMi l yX12_isAttacked wsX12_isAttacked ({ frames := 2, cells := 0, slots := 0, locals := 48 } : Room) [.ref (h 0), .int x1, .int x2] D cy ci h I A o :=
  m_entryI (cc := cX12_isAttacked) (maxL := 10) (by decide) rfl rfl (Nat.le_of_ble_eq_true rfl) (fun p e s m args below meth c A0 Q H locs ls X hret hM hl => w_isAttacked_0 X hret hf hM (lv_sub hl [0, 1, 2] rfl))
theorem hw_mayCastle : ∀ w ∈ wsX120, w ∈ wsX12_mayCastle := by decide +kernel
theorem fl_mayCastle_25 : Cond.fieldLink RX12 121 "MoveTextsModel" "side" "I" ∈ wsX12_mayCastle := by decide +kernel
theorem fl_mayCastle_26 : Cond.fieldLink RX12 124 "MoveTextsModel" "rights" "I" ∈ wsX12_mayCastle := by decide +kernel
theorem hd_mayCastle : yX12_mayCastle.cls = RX12 ∧ yX12_mayCastle.cls ≠ "java/lang/invoke/MethodHandle" ∧ yX12_mayCastle.cls ≠ "java/lang/invoke/VarHandle" ∧ (parseMethodDescriptor yX12_mayCastle.desc).map (fun d => d.parameters.length) = some 1 := by decide +kernel
def f_mayCastle_131 (t0 : Int32) (I : Nat → Int32) (A : Nat → Nat → Int32) : Option (Int32 × MS) :=
  m_chk (vp_nar .boolean t0 = t0) (some (t0, (I, A)))

set_option maxRecDepth 100000 in
set_option maxHeartbeats 4000000 in
theorem w_mayCastle_131 {p : Program} {l : Launch} {e : Env} {s : State} {m : MethodId} {args : Array Value} {below : List Frame} {meth : Method} {c : Code} {Q : State → Prop} {D : va_G} {cy ci : ClassId} {h : Nat → Nat} {A0 : Nat → Prop} {o : Int32 × MS} (X : CallFix p m c cX12_mayCastle 6 s args wsX12_mayCastle RX12) (hret : mRi p l e ({ frames := 3, cells := 0, slots := 0, locals := 77 } : Room) s m args below meth c Q cX12_mayCastle D cy ci h A0 .boolean o) {t0 : Int32} {I : Nat → Int32} {A : Nat → Nat → Int32} {H : Heap} {locs : List Loc} {ls : Array Slot} (hf : f_mayCastle_131 t0 I A = some o) (hM : mH D cy ci h A0 s H locs I A) (hl : lv_has ls 6 []) : W p l e ({ frames := 3, cells := 0, slots := 0, locals := 77 } : Room) s m args below meth c H locs 0 0 Q (F0 m 131 ls [.int t0]) := by
  obtain ⟨hx, hb, hml, hown, hts⟩ := id X
  unfold f_mayCastle_131 at hf
  obtain ⟨cd, hf⟩ := m_chkE hf
  cases hf
  exact hret H locs _ ls hM (m_nb cd) dX12_mayCastle_131
def f_mayCastle_130 (I : Nat → Int32) (A : Nat → Nat → Int32) : Option (Int32 × MS) :=
  f_mayCastle_131 (0 : Int32) I A

set_option maxRecDepth 100000 in
set_option maxHeartbeats 4000000 in
theorem w_mayCastle_130 {p : Program} {l : Launch} {e : Env} {s : State} {m : MethodId} {args : Array Value} {below : List Frame} {meth : Method} {c : Code} {Q : State → Prop} {D : va_G} {cy ci : ClassId} {h : Nat → Nat} {A0 : Nat → Prop} {o : Int32 × MS} (X : CallFix p m c cX12_mayCastle 6 s args wsX12_mayCastle RX12) (hret : mRi p l e ({ frames := 3, cells := 0, slots := 0, locals := 77 } : Room) s m args below meth c Q cX12_mayCastle D cy ci h A0 .boolean o) {I : Nat → Int32} {A : Nat → Nat → Int32} {H : Heap} {locs : List Loc} {ls : Array Slot} (hf : f_mayCastle_130  I A = some o) (hM : mH D cy ci h A0 s H locs I A) (hl : lv_has ls 6 []) : W p l e ({ frames := 3, cells := 0, slots := 0, locals := 77 } : Room) s m args below meth c H locs 0 0 Q (F0 m 130 ls []) := by
  obtain ⟨hx, hb, hml, hown, hts⟩ := id X
  unfold f_mayCastle_130 at hf
  refine lv_iconst (v := (0 : Int32)) hx hb dX12_mayCastle_130 (by decide) ?_
  exact w_mayCastle_131 X hret hf hM (lv_sub hl [] rfl)
def f_mayCastle_82 (x1 : Int32) (x2 : Int32) (x4 : Int32) (t0 : Int32) (I : Nat → Int32) (A : Nat → Nat → Int32) : Option (Int32 × MS) :=
  m_if (x4 = 0) (
  f_mayCastle_130  I A
  ) (
  m_if (t0 = 0) (
  f_mayCastle_130  I A
  ) (
  m_bnd ((1 : Int32) - (I 25)) (fun v1 =>
  m_cl (f_isAttacked x2 v1 I A) (fun r2 Ic2 Ac2 =>
  m_if (r2 = 0) (
  m_bnd (x2 + x1) (fun v3 =>
  m_bnd (v3 / (2 : Int32)) (fun v4 =>
  m_bnd ((1 : Int32) - (Ic2 25)) (fun v5 =>
  m_cl (f_isAttacked v4 v5 Ic2 Ac2) (fun r6 Ic6 Ac6 =>
  m_if (r6 = 0) (
  f_mayCastle_131 (1 : Int32) Ic6 Ac6
  ) (
  f_mayCastle_130  Ic6 Ac6
  )))))
  ) (
  f_mayCastle_130  Ic2 Ac2
  )))
  )
  )

set_option maxRecDepth 100000 in
set_option maxHeartbeats 4000000 in
theorem w_mayCastle_82 {p : Program} {l : Launch} {e : Env} {s : State} {m : MethodId} {args : Array Value} {below : List Frame} {meth : Method} {c : Code} {Q : State → Prop} {D : va_G} {cy ci : ClassId} {h : Nat → Nat} {A0 : Nat → Prop} {o : Int32 × MS} (X : CallFix p m c cX12_mayCastle 6 s args wsX12_mayCastle RX12) (hret : mRi p l e ({ frames := 3, cells := 0, slots := 0, locals := 77 } : Room) s m args below meth c Q cX12_mayCastle D cy ci h A0 .boolean o) {x1 : Int32} {x2 : Int32} {x4 : Int32} {t0 : Int32} {I : Nat → Int32} {A : Nat → Nat → Int32} {H : Heap} {locs : List Loc} {ls : Array Slot} (hf : f_mayCastle_82 x1 x2 x4 t0 I A = some o) (hM : mH D cy ci h A0 s H locs I A) (hl : lv_has ls 6 [(0, .ref (h 0)), (1, .int x1), (2, .int x2), (4, .int x4)]) : W p l e ({ frames := 3, cells := 0, slots := 0, locals := 77 } : Room) s m args below meth c H locs 0 0 Q (F0 m 82 ls [.int t0]) := by
  obtain ⟨hx, hb, hml, hown, hts⟩ := id X
  unfold f_mayCastle_82 at hf
  refine lv_istore (lv' := [(5, .int t0), (0, .ref (h 0)), (1, .int x1), (2, .int x2), (4, .int x4)]) hx hb dX12_mayCastle_82 hl (by decide) rfl (fun ls hl => ?_)
  refine lv_iload hx hb dX12_mayCastle_84 (lv_at hl 4 rfl) ?_
  refine lv_if_eq (tgt := 130) hx hb dX12_mayCastle_86 (by decide) (fun cc1 => ?_) (fun cc1 => ?_)
  · replace hf := m_ifT hf cc1
    exact w_mayCastle_130 X hret hf hM (lv_sub hl [] rfl)
  · replace hf := m_ifF hf cc1
    refine lv_iload hx hb dX12_mayCastle_89 (lv_at hl 0 rfl) ?_
    refine lv_if_eq (tgt := 130) hx hb dX12_mayCastle_91 (by decide) (fun cc1 => ?_) (fun cc1 => ?_)
    · replace hf := m_ifT hf cc1
      exact w_mayCastle_130 X hret hf hM (lv_sub hl [] rfl)
    · replace hf := m_ifF hf cc1
      refine lv_aload_n hx hb dX12_mayCastle_94 rfl (lv_at hl 1 rfl) ?_
      refine lv_iload_n hx hb dX12_mayCastle_95 rfl (lv_at hl 3 rfl) ?_
      refine lv_iconst (v := (1 : Int32)) hx hb dX12_mayCastle_96 (by decide) ?_
      refine lv_aload_n hx hb dX12_mayCastle_97 rfl (lv_at hl 1 rfl) ?_
      refine m_get (v := .int (I 25)) X hw_mayCastle hM 25 (by decide) fl_mayCastle_25 rfl dX12_mayCastle_98 ?_
      refine lv_isub hx hb dX12_mayCastle_101 ?_
      obtain ⟨v1, ev, hf⟩ := m_bndE hf
      refine m_top ev ?_
      clear ev
      obtain ⟨o2, ho, hf⟩ := m_clE hf
      refine m_callVi X hM (c_isAttacked ho) gX12_mayCastle_X12_isAttacked rfl ⟨rfl, rfl⟩ hd_isAttacked ⟨Nat.le_of_ble_eq_true rfl, Nat.le_of_ble_eq_true rfl⟩ rfl hl.1 rfl (Nat.le_of_ble_eq_true rfl) dX12_mayCastle_102 (fun H locs hM => ?_)
      clear ho
      refine lv_if_ne (tgt := 130) hx hb dX12_mayCastle_105 (by decide) (fun cc1 => ?_) (fun cc1 => ?_)
      · replace hf := m_ifF hf cc1
        exact w_mayCastle_130 X hret hf hM (lv_sub hl [] rfl)
      · replace hf := m_ifT hf cc1
        refine lv_aload_n hx hb dX12_mayCastle_108 rfl (lv_at hl 1 rfl) ?_
        refine lv_iload_n hx hb dX12_mayCastle_109 rfl (lv_at hl 3 rfl) ?_
        refine lv_iload_n hx hb dX12_mayCastle_110 rfl (lv_at hl 2 rfl) ?_
        refine lv_iadd hx hb dX12_mayCastle_111 ?_
        obtain ⟨v3, ev, hf⟩ := m_bndE hf
        refine m_top ev ?_
        clear ev
        refine lv_iconst (v := (2 : Int32)) hx hb dX12_mayCastle_112 (by decide) ?_
        refine lv_idiv hx hb dX12_mayCastle_113 (by decide) ?_
        obtain ⟨v4, ev, hf⟩ := m_bndE hf
        refine m_top ev ?_
        clear ev
        refine lv_iconst (v := (1 : Int32)) hx hb dX12_mayCastle_114 (by decide) ?_
        refine lv_aload_n hx hb dX12_mayCastle_115 rfl (lv_at hl 1 rfl) ?_
        refine m_get (v := .int (o2.2.1 25)) X hw_mayCastle hM 25 (by decide) fl_mayCastle_25 rfl dX12_mayCastle_116 ?_
        refine lv_isub hx hb dX12_mayCastle_119 ?_
        obtain ⟨v5, ev, hf⟩ := m_bndE hf
        refine m_top ev ?_
        clear ev
        obtain ⟨o6, ho, hf⟩ := m_clE hf
        refine m_callVi X hM (c_isAttacked ho) gX12_mayCastle_X12_isAttacked rfl ⟨rfl, rfl⟩ hd_isAttacked ⟨Nat.le_of_ble_eq_true rfl, Nat.le_of_ble_eq_true rfl⟩ rfl hl.1 rfl (Nat.le_of_ble_eq_true rfl) dX12_mayCastle_120 (fun H locs hM => ?_)
        clear ho
        refine lv_if_ne (tgt := 130) hx hb dX12_mayCastle_123 (by decide) (fun cc1 => ?_) (fun cc1 => ?_)
        · replace hf := m_ifF hf cc1
          exact w_mayCastle_130 X hret hf hM (lv_sub hl [] rfl)
        · replace hf := m_ifT hf cc1
          refine lv_iconst (v := (1 : Int32)) hx hb dX12_mayCastle_126 (by decide) ?_
          refine lv_goto (tgt := 131) hx hb dX12_mayCastle_127 (by decide) ?_
          exact w_mayCastle_131 X hret hf hM (lv_sub hl [] rfl)
def f_mayCastle_53 (x1 : Int32) (x2 : Int32) (x3 : Int32) (t0 : Int32) (I : Nat → Int32) (A : Nat → Nat → Int32) : Option (Int32 × MS) :=
  m_if (x3 = 0) (
  m_bnd (x2 - (3 : Int32)) (fun v1 =>
  m_bnd (x2 - (1 : Int32)) (fun v2 =>
  m_cl (f_isClear v1 v2 I A) (fun r3 Ic3 Ac3 =>
  f_mayCastle_82 x1 x2 t0 r3 Ic3 Ac3)))
  ) (
  m_bnd (x2 + (1 : Int32)) (fun v4 =>
  m_bnd (x2 + (2 : Int32)) (fun v5 =>
  m_cl (f_isClear v4 v5 I A) (fun r6 Ic6 Ac6 =>
  f_mayCastle_82 x1 x2 t0 r6 Ic6 Ac6)))
  )

set_option maxRecDepth 100000 in
set_option maxHeartbeats 4000000 in
theorem w_mayCastle_53 {p : Program} {l : Launch} {e : Env} {s : State} {m : MethodId} {args : Array Value} {below : List Frame} {meth : Method} {c : Code} {Q : State → Prop} {D : va_G} {cy ci : ClassId} {h : Nat → Nat} {A0 : Nat → Prop} {o : Int32 × MS} (X : CallFix p m c cX12_mayCastle 6 s args wsX12_mayCastle RX12) (hret : mRi p l e ({ frames := 3, cells := 0, slots := 0, locals := 77 } : Room) s m args below meth c Q cX12_mayCastle D cy ci h A0 .boolean o) {x1 : Int32} {x2 : Int32} {x3 : Int32} {t0 : Int32} {I : Nat → Int32} {A : Nat → Nat → Int32} {H : Heap} {locs : List Loc} {ls : Array Slot} (hf : f_mayCastle_53 x1 x2 x3 t0 I A = some o) (hM : mH D cy ci h A0 s H locs I A) (hl : lv_has ls 6 [(0, .ref (h 0)), (1, .int x1), (2, .int x2), (3, .int x3)]) : W p l e ({ frames := 3, cells := 0, slots := 0, locals := 77 } : Room) s m args below meth c H locs 0 0 Q (F0 m 53 ls [.int t0]) := by
  obtain ⟨hx, hb, hml, hown, hts⟩ := id X
  unfold f_mayCastle_53 at hf
  refine lv_istore (lv' := [(4, .int t0), (0, .ref (h 0)), (1, .int x1), (2, .int x2), (3, .int x3)]) hx hb dX12_mayCastle_53 hl (by decide) rfl (fun ls hl => ?_)
  refine lv_iload_n hx hb dX12_mayCastle_55 rfl (lv_at hl 4 rfl) ?_
  refine lv_if_eq (tgt := 72) hx hb dX12_mayCastle_56 (by decide) (fun cc1 => ?_) (fun cc1 => ?_)
  · replace hf := m_ifT hf cc1
    refine lv_aload_n hx hb dX12_mayCastle_72 rfl (lv_at hl 1 rfl) ?_
    refine lv_iload_n hx hb dX12_mayCastle_73 rfl (lv_at hl 3 rfl) ?_
    refine lv_iconst (v := (3 : Int32)) hx hb dX12_mayCastle_74 (by decide) ?_
    refine lv_isub hx hb dX12_mayCastle_75 ?_
    obtain ⟨v1, ev, hf⟩ := m_bndE hf
    refine m_top ev ?_
    clear ev
    refine lv_iload_n hx hb dX12_mayCastle_76 rfl (lv_at hl 3 rfl) ?_
    refine lv_iconst (v := (1 : Int32)) hx hb dX12_mayCastle_77 (by decide) ?_
    refine lv_isub hx hb dX12_mayCastle_78 ?_
    obtain ⟨v2, ev, hf⟩ := m_bndE hf
    refine m_top ev ?_
    clear ev
    obtain ⟨o3, ho, hf⟩ := m_clE hf
    refine m_callVi X hM (c_isClear ho) gX12_mayCastle_X12_isClear rfl ⟨rfl, rfl⟩ hd_isClear ⟨Nat.le_of_ble_eq_true rfl, Nat.le_of_ble_eq_true rfl⟩ rfl hl.1 rfl (Nat.le_of_ble_eq_true rfl) dX12_mayCastle_79 (fun H locs hM => ?_)
    clear ho
    exact w_mayCastle_82 X hret hf hM (lv_sub hl [1, 2, 3, 0] rfl)
  · replace hf := m_ifF hf cc1
    refine lv_aload_n hx hb dX12_mayCastle_59 rfl (lv_at hl 1 rfl) ?_
    refine lv_iload_n hx hb dX12_mayCastle_60 rfl (lv_at hl 3 rfl) ?_
    refine lv_iconst (v := (1 : Int32)) hx hb dX12_mayCastle_61 (by decide) ?_
    refine lv_iadd hx hb dX12_mayCastle_62 ?_
    obtain ⟨v4, ev, hf⟩ := m_bndE hf
    refine m_top ev ?_
    clear ev
    refine lv_iload_n hx hb dX12_mayCastle_63 rfl (lv_at hl 3 rfl) ?_
    refine lv_iconst (v := (2 : Int32)) hx hb dX12_mayCastle_64 (by decide) ?_
    refine lv_iadd hx hb dX12_mayCastle_65 ?_
    obtain ⟨v5, ev, hf⟩ := m_bndE hf
    refine m_top ev ?_
    clear ev
    obtain ⟨o6, ho, hf⟩ := m_clE hf
    refine m_callVi X hM (c_isClear ho) gX12_mayCastle_X12_isClear rfl ⟨rfl, rfl⟩ hd_isClear ⟨Nat.le_of_ble_eq_true rfl, Nat.le_of_ble_eq_true rfl⟩ rfl hl.1 rfl (Nat.le_of_ble_eq_true rfl) dX12_mayCastle_66 (fun H locs hM => ?_)
    clear ho
    refine lv_goto (tgt := 82) hx hb dX12_mayCastle_69 (by decide) ?_
    exact w_mayCastle_82 X hret hf hM (lv_sub hl [1, 2, 3, 0] rfl)
def f_mayCastle_40 (x1 : Int32) (x2 : Int32) (x3 : Int32) (t0 : Int32) (t1 : Int32) (t2 : Int32) (I : Nat → Int32) (A : Nat → Nat → Int32) : Option (Int32 × MS) :=
  m_bnd (t1 + t0) (fun v1 =>
  m_bnd (t2 >>> (v1 &&& 31)) (fun v2 =>
  m_bnd (v2 &&& (1 : Int32)) (fun v3 =>
  m_if (v3 = (1 : Int32)) (
  f_mayCastle_53 x1 x2 x3 (1 : Int32) I A
  ) (
  f_mayCastle_53 x1 x2 x3 (0 : Int32) I A
  ))))

set_option maxRecDepth 100000 in
set_option maxHeartbeats 4000000 in
theorem w_mayCastle_40 {p : Program} {l : Launch} {e : Env} {s : State} {m : MethodId} {args : Array Value} {below : List Frame} {meth : Method} {c : Code} {Q : State → Prop} {D : va_G} {cy ci : ClassId} {h : Nat → Nat} {A0 : Nat → Prop} {o : Int32 × MS} (X : CallFix p m c cX12_mayCastle 6 s args wsX12_mayCastle RX12) (hret : mRi p l e ({ frames := 3, cells := 0, slots := 0, locals := 77 } : Room) s m args below meth c Q cX12_mayCastle D cy ci h A0 .boolean o) {x1 : Int32} {x2 : Int32} {x3 : Int32} {t0 : Int32} {t1 : Int32} {t2 : Int32} {I : Nat → Int32} {A : Nat → Nat → Int32} {H : Heap} {locs : List Loc} {ls : Array Slot} (hf : f_mayCastle_40 x1 x2 x3 t0 t1 t2 I A = some o) (hM : mH D cy ci h A0 s H locs I A) (hl : lv_has ls 6 [(0, .ref (h 0)), (1, .int x1), (2, .int x2), (3, .int x3)]) : W p l e ({ frames := 3, cells := 0, slots := 0, locals := 77 } : Room) s m args below meth c H locs 0 0 Q (F0 m 40 ls [.int t0, .int t1, .int t2]) := by
  obtain ⟨hx, hb, hml, hown, hts⟩ := id X
  unfold f_mayCastle_40 at hf
  refine lv_iadd hx hb dX12_mayCastle_40 ?_
  obtain ⟨v1, ev, hf⟩ := m_bndE hf
  refine m_top ev ?_
  clear ev
  refine lv_ishr hx hb dX12_mayCastle_41 ?_
  obtain ⟨v2, ev, hf⟩ := m_bndE hf
  refine m_top ev ?_
  clear ev
  refine lv_iconst (v := (1 : Int32)) hx hb dX12_mayCastle_42 (by decide) ?_
  refine lv_iand hx hb dX12_mayCastle_43 ?_
  obtain ⟨v3, ev, hf⟩ := m_bndE hf
  refine m_top ev ?_
  clear ev
  refine lv_iconst (v := (1 : Int32)) hx hb dX12_mayCastle_44 (by decide) ?_
  refine lv_icmp_ne (tgt := 52) hx hb dX12_mayCastle_45 (by decide) (fun cc1 => ?_) (fun cc1 => ?_)
  · replace hf := m_ifF hf cc1
    refine lv_iconst (v := (0 : Int32)) hx hb dX12_mayCastle_52 (by decide) ?_
    exact w_mayCastle_53 X hret hf hM (lv_sub hl [0, 1, 2, 3] rfl)
  · replace hf := m_ifT hf cc1
    refine lv_iconst (v := (1 : Int32)) hx hb dX12_mayCastle_48 (by decide) ?_
    refine lv_goto (tgt := 53) hx hb dX12_mayCastle_49 (by decide) ?_
    exact w_mayCastle_53 X hret hf hM (lv_sub hl [0, 1, 2, 3] rfl)
def f_mayCastle_20 (x1 : Int32) (x2 : Int32) (t0 : Int32) (I : Nat → Int32) (A : Nat → Nat → Int32) : Option (Int32 × MS) :=
  m_bnd ((2 : Int32) * (I 25)) (fun v1 =>
  m_if (t0 = 0) (
  f_mayCastle_40 x1 x2 t0 (1 : Int32) v1 (I 26) I A
  ) (
  f_mayCastle_40 x1 x2 t0 (0 : Int32) v1 (I 26) I A
  ))

set_option maxRecDepth 100000 in
set_option maxHeartbeats 4000000 in
theorem w_mayCastle_20 {p : Program} {l : Launch} {e : Env} {s : State} {m : MethodId} {args : Array Value} {below : List Frame} {meth : Method} {c : Code} {Q : State → Prop} {D : va_G} {cy ci : ClassId} {h : Nat → Nat} {A0 : Nat → Prop} {o : Int32 × MS} (X : CallFix p m c cX12_mayCastle 6 s args wsX12_mayCastle RX12) (hret : mRi p l e ({ frames := 3, cells := 0, slots := 0, locals := 77 } : Room) s m args below meth c Q cX12_mayCastle D cy ci h A0 .boolean o) {x1 : Int32} {x2 : Int32} {t0 : Int32} {I : Nat → Int32} {A : Nat → Nat → Int32} {H : Heap} {locs : List Loc} {ls : Array Slot} (hf : f_mayCastle_20 x1 x2 t0 I A = some o) (hM : mH D cy ci h A0 s H locs I A) (hl : lv_has ls 6 [(0, .ref (h 0)), (1, .int x1), (2, .int x2)]) : W p l e ({ frames := 3, cells := 0, slots := 0, locals := 77 } : Room) s m args below meth c H locs 0 0 Q (F0 m 20 ls [.int t0]) := by
  obtain ⟨hx, hb, hml, hown, hts⟩ := id X
  unfold f_mayCastle_20 at hf
  refine lv_istore_n (lv' := [(3, .int t0), (0, .ref (h 0)), (1, .int x1), (2, .int x2)]) hx hb dX12_mayCastle_20 rfl hl (by decide) rfl (fun ls hl => ?_)
  refine lv_aload_n hx hb dX12_mayCastle_21 rfl (lv_at hl 1 rfl) ?_
  refine m_get (v := .int (I 26)) X hw_mayCastle hM 26 (by decide) fl_mayCastle_26 rfl dX12_mayCastle_22 ?_
  refine lv_iconst (v := (2 : Int32)) hx hb dX12_mayCastle_25 (by decide) ?_
  refine lv_aload_n hx hb dX12_mayCastle_26 rfl (lv_at hl 1 rfl) ?_
  refine m_get (v := .int (I 25)) X hw_mayCastle hM 25 (by decide) fl_mayCastle_25 rfl dX12_mayCastle_27 ?_
  refine lv_imul hx hb dX12_mayCastle_30 ?_
  obtain ⟨v1, ev, hf⟩ := m_bndE hf
  refine m_top ev ?_
  clear ev
  refine lv_iload_n hx hb dX12_mayCastle_31 rfl (lv_at hl 0 rfl) ?_
  refine lv_if_eq (tgt := 39) hx hb dX12_mayCastle_32 (by decide) (fun cc1 => ?_) (fun cc1 => ?_)
  · replace hf := m_ifT hf cc1
    refine lv_iconst (v := (1 : Int32)) hx hb dX12_mayCastle_39 (by decide) ?_
    exact w_mayCastle_40 X hret hf hM (lv_sub hl [1, 2, 3, 0] rfl)
  · replace hf := m_ifF hf cc1
    refine lv_iconst (v := (0 : Int32)) hx hb dX12_mayCastle_35 (by decide) ?_
    refine lv_goto (tgt := 40) hx hb dX12_mayCastle_36 (by decide) ?_
    exact w_mayCastle_40 X hret hf hM (lv_sub hl [1, 2, 3, 0] rfl)
def f_mayCastle_0 (x1 : Int32) (I : Nat → Int32) (A : Nat → Nat → Int32) : Option (Int32 × MS) :=
  m_bnd ((56 : Int32) * (I 25)) (fun v1 =>
  m_bnd ((4 : Int32) + v1) (fun v2 =>
  m_if (x1 ≤ v2) (
  f_mayCastle_20 x1 v2 (0 : Int32) I A
  ) (
  f_mayCastle_20 x1 v2 (1 : Int32) I A
  )))

set_option maxRecDepth 100000 in
set_option maxHeartbeats 4000000 in
theorem w_mayCastle_0 {p : Program} {l : Launch} {e : Env} {s : State} {m : MethodId} {args : Array Value} {below : List Frame} {meth : Method} {c : Code} {Q : State → Prop} {D : va_G} {cy ci : ClassId} {h : Nat → Nat} {A0 : Nat → Prop} {o : Int32 × MS} (X : CallFix p m c cX12_mayCastle 6 s args wsX12_mayCastle RX12) (hret : mRi p l e ({ frames := 3, cells := 0, slots := 0, locals := 77 } : Room) s m args below meth c Q cX12_mayCastle D cy ci h A0 .boolean o) {x1 : Int32} {I : Nat → Int32} {A : Nat → Nat → Int32} {H : Heap} {locs : List Loc} {ls : Array Slot} (hf : f_mayCastle_0 x1 I A = some o) (hM : mH D cy ci h A0 s H locs I A) (hl : lv_has ls 6 [(0, .ref (h 0)), (1, .int x1)]) : W p l e ({ frames := 3, cells := 0, slots := 0, locals := 77 } : Room) s m args below meth c H locs 0 0 Q (F0 m 0 ls []) := by
  obtain ⟨hx, hb, hml, hown, hts⟩ := id X
  unfold f_mayCastle_0 at hf
  refine lv_iconst (v := (4 : Int32)) hx hb dX12_mayCastle_0 (by decide) ?_
  refine lv_bipush (v := (56 : Int32)) hx hb dX12_mayCastle_1 (by decide) ?_
  refine lv_aload_n hx hb dX12_mayCastle_3 rfl (lv_at hl 0 rfl) ?_
  refine m_get (v := .int (I 25)) X hw_mayCastle hM 25 (by decide) fl_mayCastle_25 rfl dX12_mayCastle_4 ?_
  refine lv_imul hx hb dX12_mayCastle_7 ?_
  obtain ⟨v1, ev, hf⟩ := m_bndE hf
  refine m_top ev ?_
  clear ev
  refine lv_iadd hx hb dX12_mayCastle_8 ?_
  obtain ⟨v2, ev, hf⟩ := m_bndE hf
  refine m_top ev ?_
  clear ev
  refine lv_istore_n (lv' := [(2, .int v2), (0, .ref (h 0)), (1, .int x1)]) hx hb dX12_mayCastle_9 rfl hl (by decide) rfl (fun ls hl => ?_)
  refine lv_iload_n hx hb dX12_mayCastle_10 rfl (lv_at hl 2 rfl) ?_
  refine lv_iload_n hx hb dX12_mayCastle_11 rfl (lv_at hl 0 rfl) ?_
  refine lv_icmp_le (tgt := 19) hx hb dX12_mayCastle_12 (by decide) (fun cc1 => ?_) (fun cc1 => ?_)
  · replace hf := m_ifT hf cc1
    refine lv_iconst (v := (0 : Int32)) hx hb dX12_mayCastle_19 (by decide) ?_
    exact w_mayCastle_20 X hret hf hM (lv_sub hl [1, 2, 0] rfl)
  · replace hf := m_ifF hf cc1
    refine lv_iconst (v := (1 : Int32)) hx hb dX12_mayCastle_15 (by decide) ?_
    refine lv_goto (tgt := 20) hx hb dX12_mayCastle_16 (by decide) ?_
    exact w_mayCastle_20 X hret hf hM (lv_sub hl [1, 2, 0] rfl)
def f_mayCastle (x1 : Int32) (I : Nat → Int32) (A : Nat → Nat → Int32) : Option (Int32 × MS) := f_mayCastle_0 x1 I A
theorem c_mayCastle {l : Launch} {D : va_G} {cy ci : ClassId} {h : Nat → Nat} {x1 : Int32} {I : Nat → Int32} {A : Nat → Nat → Int32} {o : Int32 × MS} (hf : f_mayCastle x1 I A = some o) : mMi l yX12_mayCastle wsX12_mayCastle ({ frames := 3, cells := 0, slots := 0, locals := 77 } : Room) [.ref (h 0), .int x1] D cy ci h I A o :=
  m_entryI (cc := cX12_mayCastle) (maxL := 6) (by decide) rfl rfl (Nat.le_of_ble_eq_true rfl) (fun p e s m args below meth c A0 Q H locs ls X hret hM hl => w_mayCastle_0 X hret hf hM (lv_sub hl [0, 1] rfl))
theorem hw_goes : ∀ w ∈ wsX120, w ∈ wsX12_goes := by decide +kernel
theorem fl_goes_24 : Cond.fieldLink RX12 70 "MoveTextsModel" "men" "[I" ∈ wsX12_goes := by decide +kernel
theorem fl_goes_25 : Cond.fieldLink RX12 121 "MoveTextsModel" "side" "I" ∈ wsX12_goes := by decide +kernel
theorem hd_goes : yX12_goes.cls = RX12 ∧ yX12_goes.cls ≠ "java/lang/invoke/MethodHandle" ∧ yX12_goes.cls ≠ "java/lang/invoke/VarHandle" ∧ (parseMethodDescriptor yX12_goes.desc).map (fun d => d.parameters.length) = some 2 := by decide +kernel
def f_goes_37 (I : Nat → Int32) (A : Nat → Nat → Int32) : Option (Int32 × MS) :=
  m_chk (vp_nar .boolean (0 : Int32) = (0 : Int32)) (some ((0 : Int32), (I, A)))

set_option maxRecDepth 100000 in
set_option maxHeartbeats 4000000 in
theorem w_goes_37 {p : Program} {l : Launch} {e : Env} {s : State} {m : MethodId} {args : Array Value} {below : List Frame} {meth : Method} {c : Code} {Q : State → Prop} {D : va_G} {cy ci : ClassId} {h : Nat → Nat} {A0 : Nat → Prop} {o : Int32 × MS} (X : CallFix p m c cX12_goes 11 s args wsX12_goes RX12) (hret : mRi p l e ({ frames := 4, cells := 0, slots := 0, locals := 102 } : Room) s m args below meth c Q cX12_goes D cy ci h A0 .boolean o) {I : Nat → Int32} {A : Nat → Nat → Int32} {H : Heap} {locs : List Loc} {ls : Array Slot} (hf : f_goes_37  I A = some o) (hM : mH D cy ci h A0 s H locs I A) (hl : lv_has ls 11 []) : W p l e ({ frames := 4, cells := 0, slots := 0, locals := 102 } : Room) s m args below meth c H locs 0 0 Q (F0 m 37 ls []) := by
  obtain ⟨hx, hb, hml, hown, hts⟩ := id X
  unfold f_goes_37 at hf
  refine lv_iconst (v := (0 : Int32)) hx hb dX12_goes_37 (by decide) ?_
  obtain ⟨cd, hf⟩ := m_chkE hf
  cases hf
  exact hret H locs _ ls hM (m_nb cd) dX12_goes_38
def f_goes_315 (t0 : Int32) (I : Nat → Int32) (A : Nat → Nat → Int32) : Option (Int32 × MS) :=
  m_chk (vp_nar .boolean t0 = t0) (some (t0, (I, A)))

set_option maxRecDepth 100000 in
set_option maxHeartbeats 4000000 in
theorem w_goes_315 {p : Program} {l : Launch} {e : Env} {s : State} {m : MethodId} {args : Array Value} {below : List Frame} {meth : Method} {c : Code} {Q : State → Prop} {D : va_G} {cy ci : ClassId} {h : Nat → Nat} {A0 : Nat → Prop} {o : Int32 × MS} (X : CallFix p m c cX12_goes 11 s args wsX12_goes RX12) (hret : mRi p l e ({ frames := 4, cells := 0, slots := 0, locals := 102 } : Room) s m args below meth c Q cX12_goes D cy ci h A0 .boolean o) {t0 : Int32} {I : Nat → Int32} {A : Nat → Nat → Int32} {H : Heap} {locs : List Loc} {ls : Array Slot} (hf : f_goes_315 t0 I A = some o) (hM : mH D cy ci h A0 s H locs I A) (hl : lv_has ls 11 []) : W p l e ({ frames := 4, cells := 0, slots := 0, locals := 102 } : Room) s m args below meth c H locs 0 0 Q (F0 m 315 ls [.int t0]) := by
  obtain ⟨hx, hb, hml, hown, hts⟩ := id X
  unfold f_goes_315 at hf
  obtain ⟨cd, hf⟩ := m_chkE hf
  cases hf
  exact hret H locs _ ls hM (m_nb cd) dX12_goes_315
def f_goes_304 (x2 : Int32) (x10 : Int32) (I : Nat → Int32) (A : Nat → Nat → Int32) : Option (Int32 × MS) :=
  m_if (x10 = x2) (
  f_goes_315 (1 : Int32) I A
  ) (
  f_goes_315 (0 : Int32) I A
  )

set_option maxRecDepth 100000 in
set_option maxHeartbeats 4000000 in
theorem w_goes_304 {p : Program} {l : Launch} {e : Env} {s : State} {m : MethodId} {args : Array Value} {below : List Frame} {meth : Method} {c : Code} {Q : State → Prop} {D : va_G} {cy ci : ClassId} {h : Nat → Nat} {A0 : Nat → Prop} {o : Int32 × MS} (X : CallFix p m c cX12_goes 11 s args wsX12_goes RX12) (hret : mRi p l e ({ frames := 4, cells := 0, slots := 0, locals := 102 } : Room) s m args below meth c Q cX12_goes D cy ci h A0 .boolean o) {x2 : Int32} {x10 : Int32} {I : Nat → Int32} {A : Nat → Nat → Int32} {H : Heap} {locs : List Loc} {ls : Array Slot} (hf : f_goes_304 x2 x10 I A = some o) (hM : mH D cy ci h A0 s H locs I A) (hl : lv_has ls 11 [(2, .int x2), (10, .int x10)]) : W p l e ({ frames := 4, cells := 0, slots := 0, locals := 102 } : Room) s m args below meth c H locs 0 0 Q (F0 m 304 ls []) := by
  obtain ⟨hx, hb, hml, hown, hts⟩ := id X
  unfold f_goes_304 at hf
  refine lv_iload hx hb dX12_goes_304 (lv_at hl 1 rfl) ?_
  refine lv_iload_n hx hb dX12_goes_306 rfl (lv_at hl 0 rfl) ?_
  refine lv_icmp_ne (tgt := 314) hx hb dX12_goes_307 (by decide) (fun cc1 => ?_) (fun cc1 => ?_)
  · replace hf := m_ifF hf cc1
    refine lv_iconst (v := (0 : Int32)) hx hb dX12_goes_314 (by decide) ?_
    exact w_goes_315 X hret hf hM (lv_sub hl [] rfl)
  · replace hf := m_ifT hf cc1
    refine lv_iconst (v := (1 : Int32)) hx hb dX12_goes_310 (by decide) ?_
    refine lv_goto (tgt := 315) hx hb dX12_goes_311 (by decide) ?_
    exact w_goes_315 X hret hf hM (lv_sub hl [] rfl)
def f_goes_274s (self274 : Int32 → Int32 → Int32 → Int32 → (Nat → Int32) → (Nat → Nat → Int32) → Option (Int32 × MS)) (x2 : Int32) (x8 : Int32) (x9 : Int32) (x10 : Int32) (I : Nat → Int32) (A : Nat → Nat → Int32) : Option (Int32 × MS) :=
  m_if (x10 = x2) (
  f_goes_304 x2 x10 I A
  ) (
  m_chk (¬ (x10 < 0 ∨ 64 ≤ (x10).toNatClampNeg)) (
  m_bnd (A 24 (x10).toNatClampNeg) (fun v1 =>
  m_if (v1 = 0) (
  m_cl (f_step x10 x8 x9 I A) (fun r2 Ic2 Ac2 =>
  self274 x2 x8 x9 r2 Ic2 Ac2)
  ) (
  f_goes_304 x2 x10 I A
  )))
  )

set_option maxRecDepth 100000 in
set_option maxHeartbeats 4000000 in
theorem ws_goes_274 {p : Program} {l : Launch} {e : Env} {s : State} {m : MethodId} {args : Array Value} {below : List Frame} {meth : Method} {c : Code} {Q : State → Prop} {D : va_G} {cy ci : ClassId} {h : Nat → Nat} {A0 : Nat → Prop} {o : Int32 × MS} (X : CallFix p m c cX12_goes 11 s args wsX12_goes RX12) (hret : mRi p l e ({ frames := 4, cells := 0, slots := 0, locals := 102 } : Room) s m args below meth c Q cX12_goes D cy ci h A0 .boolean o) {self274 : Int32 → Int32 → Int32 → Int32 → (Nat → Int32) → (Nat → Nat → Int32) → Option (Int32 × MS)} (hself274 : ∀ (x2 : Int32) (x8 : Int32) (x9 : Int32) (x10 : Int32) (I : Nat → Int32) (A : Nat → Nat → Int32) (H : Heap) (locs : List Loc) (ls : Array Slot), self274 x2 x8 x9 x10 I A = some o → mH D cy ci h A0 s H locs I A → lv_has ls 11 [(0, .ref (h 0)), (2, .int x2), (8, .int x8), (9, .int x9), (10, .int x10)] → W p l e ({ frames := 4, cells := 0, slots := 0, locals := 102 } : Room) s m args below meth c H locs 0 0 Q (F0 m 274 ls [])) {x2 : Int32} {x8 : Int32} {x9 : Int32} {x10 : Int32} {I : Nat → Int32} {A : Nat → Nat → Int32} {H : Heap} {locs : List Loc} {ls : Array Slot} (hf : f_goes_274s self274 x2 x8 x9 x10 I A = some o) (hM : mH D cy ci h A0 s H locs I A) (hl : lv_has ls 11 [(0, .ref (h 0)), (2, .int x2), (8, .int x8), (9, .int x9), (10, .int x10)]) : W p l e ({ frames := 4, cells := 0, slots := 0, locals := 102 } : Room) s m args below meth c H locs 0 0 Q (F0 m 274 ls []) := by
  obtain ⟨hx, hb, hml, hown, hts⟩ := id X
  unfold f_goes_274s at hf
  refine lv_iload hx hb dX12_goes_274 (lv_at hl 4 rfl) ?_
  refine lv_iload_n hx hb dX12_goes_276 rfl (lv_at hl 1 rfl) ?_
  refine lv_icmp_eq (tgt := 304) hx hb dX12_goes_277 (by decide) (fun cc1 => ?_) (fun cc1 => ?_)
  · replace hf := m_ifT hf cc1
    exact w_goes_304 X hret hf hM (lv_sub hl [1, 4] rfl)
  · replace hf := m_ifF hf cc1
    refine lv_aload_n hx hb dX12_goes_280 rfl (lv_at hl 0 rfl) ?_
    refine m_get (v := .ref (h 24)) X hw_goes hM 24 (by decide) fl_goes_24 rfl dX12_goes_281 ?_
    refine lv_iload hx hb dX12_goes_284 (lv_at hl 4 rfl) ?_
    obtain ⟨cd, hf⟩ := m_chkE hf
    refine m_iald X hM 24 20 64 rfl cd dX12_goes_286 ?_
    clear cd
    obtain ⟨v1, ev, hf⟩ := m_bndE hf
    refine m_top ev ?_
    clear ev
    refine lv_if_ne (tgt := 304) hx hb dX12_goes_287 (by decide) (fun cc1 => ?_) (fun cc1 => ?_)
    · replace hf := m_ifF hf cc1
      exact w_goes_304 X hret hf hM (lv_sub hl [1, 4] rfl)
    · replace hf := m_ifT hf cc1
      refine lv_iload hx hb dX12_goes_290 (lv_at hl 4 rfl) ?_
      refine lv_iload hx hb dX12_goes_292 (lv_at hl 2 rfl) ?_
      refine lv_iload hx hb dX12_goes_294 (lv_at hl 3 rfl) ?_
      obtain ⟨o2, ho, hf⟩ := m_clE hf
      refine m_callSi X hM (c_step ho) gX12_goes_X12_step rfl ⟨rfl, rfl⟩ hd_step ⟨Nat.le_of_ble_eq_true rfl, Nat.le_of_ble_eq_true rfl⟩ rfl hl.1 rfl (Nat.le_of_ble_eq_true rfl) dX12_goes_296 (fun H locs hM => ?_)
      clear ho
      refine lv_istore (lv' := [(10, .int o2.1), (0, .ref (h 0)), (2, .int x2), (8, .int x8), (9, .int x9)]) hx hb dX12_goes_299 hl (by decide) rfl (fun ls hl => ?_)
      refine lv_goto (tgt := 274) hx hb dX12_goes_301 (by decide) ?_
      exact hself274 _ _ _ _ _ _ _ _ _ hf hM (lv_sub hl [1, 2, 3, 4, 0] rfl)
def f_goes_274 : Nat → Int32 → Int32 → Int32 → Int32 → (Nat → Int32) → (Nat → Nat → Int32) → Option (Int32 × MS)
  | 0 => fun _ _ _ _ _ _ => none
  | n + 1 => f_goes_274s (f_goes_274 n)
theorem w_goes_274 {p : Program} {l : Launch} {e : Env} {s : State} {m : MethodId} {args : Array Value} {below : List Frame} {meth : Method} {c : Code} {Q : State → Prop} {D : va_G} {cy ci : ClassId} {h : Nat → Nat} {A0 : Nat → Prop} {o : Int32 × MS} (X : CallFix p m c cX12_goes 11 s args wsX12_goes RX12) (hret : mRi p l e ({ frames := 4, cells := 0, slots := 0, locals := 102 } : Room) s m args below meth c Q cX12_goes D cy ci h A0 .boolean o) (n : Nat) : ∀ (x2 : Int32) (x8 : Int32) (x9 : Int32) (x10 : Int32) (I : Nat → Int32) (A : Nat → Nat → Int32) (H : Heap) (locs : List Loc) (ls : Array Slot), f_goes_274 n x2 x8 x9 x10 I A = some o → mH D cy ci h A0 s H locs I A → lv_has ls 11 [(0, .ref (h 0)), (2, .int x2), (8, .int x8), (9, .int x9), (10, .int x10)] → W p l e ({ frames := 4, cells := 0, slots := 0, locals := 102 } : Room) s m args below meth c H locs 0 0 Q (F0 m 274 ls []) := by
  induction n with
  | zero => intro x2 x8 x9 x10 I A H locs ls hf; cases hf
  | succ n ih => intro x2 x8 x9 x10 I A H locs ls hf hM hl; exact ws_goes_274 X hret (self274 := f_goes_274 n) ih hf hM hl
def f_goes_262 (x1 : Int32) (x2 : Int32) (x8 : Int32) (t0 : Int32) (I : Nat → Int32) (A : Nat → Nat → Int32) : Option (Int32 × MS) :=
  m_cl (f_step x1 x8 t0 I A) (fun r1 Ic1 Ac1 =>
  f_goes_274 mFuel x2 x8 t0 r1 Ic1 Ac1)

set_option maxRecDepth 100000 in
set_option maxHeartbeats 4000000 in
theorem w_goes_262 {p : Program} {l : Launch} {e : Env} {s : State} {m : MethodId} {args : Array Value} {below : List Frame} {meth : Method} {c : Code} {Q : State → Prop} {D : va_G} {cy ci : ClassId} {h : Nat → Nat} {A0 : Nat → Prop} {o : Int32 × MS} (X : CallFix p m c cX12_goes 11 s args wsX12_goes RX12) (hret : mRi p l e ({ frames := 4, cells := 0, slots := 0, locals := 102 } : Room) s m args below meth c Q cX12_goes D cy ci h A0 .boolean o) {x1 : Int32} {x2 : Int32} {x8 : Int32} {t0 : Int32} {I : Nat → Int32} {A : Nat → Nat → Int32} {H : Heap} {locs : List Loc} {ls : Array Slot} (hf : f_goes_262 x1 x2 x8 t0 I A = some o) (hM : mH D cy ci h A0 s H locs I A) (hl : lv_has ls 11 [(0, .ref (h 0)), (1, .int x1), (2, .int x2), (8, .int x8)]) : W p l e ({ frames := 4, cells := 0, slots := 0, locals := 102 } : Room) s m args below meth c H locs 0 0 Q (F0 m 262 ls [.int t0]) := by
  obtain ⟨hx, hb, hml, hown, hts⟩ := id X
  unfold f_goes_262 at hf
  refine lv_istore (lv' := [(9, .int t0), (0, .ref (h 0)), (1, .int x1), (2, .int x2), (8, .int x8)]) hx hb dX12_goes_262 hl (by decide) rfl (fun ls hl => ?_)
  refine lv_iload_n hx hb dX12_goes_264 rfl (lv_at hl 2 rfl) ?_
  refine lv_iload hx hb dX12_goes_265 (lv_at hl 4 rfl) ?_
  refine lv_iload hx hb dX12_goes_267 (lv_at hl 0 rfl) ?_
  obtain ⟨o1, ho, hf⟩ := m_clE hf
  refine m_callSi X hM (c_step ho) gX12_goes_X12_step rfl ⟨rfl, rfl⟩ hd_step ⟨Nat.le_of_ble_eq_true rfl, Nat.le_of_ble_eq_true rfl⟩ rfl hl.1 rfl (Nat.le_of_ble_eq_true rfl) dX12_goes_269 (fun H locs hM => ?_)
  clear ho
  refine lv_istore (lv' := [(10, .int o1.1), (9, .int t0), (0, .ref (h 0)), (1, .int x1), (2, .int x2), (8, .int x8)]) hx hb dX12_goes_272 hl (by decide) rfl (fun ls hl => ?_)
  exact w_goes_274 X hret _ _ _ _ _ _ _ _ _ _ hf hM (lv_sub hl [2, 4, 5, 1, 0] rfl)
def f_goes_241 (x1 : Int32) (x2 : Int32) (x5 : Int32) (t0 : Int32) (I : Nat → Int32) (A : Nat → Nat → Int32) : Option (Int32 × MS) :=
  m_if (x5 ≤ 0) (
  m_if (0 ≤ x5) (
  f_goes_262 x1 x2 t0 (0 : Int32) I A
  ) (
  f_goes_262 x1 x2 t0 (-1 : Int32) I A
  )
  ) (
  f_goes_262 x1 x2 t0 (1 : Int32) I A
  )

set_option maxRecDepth 100000 in
set_option maxHeartbeats 4000000 in
theorem w_goes_241 {p : Program} {l : Launch} {e : Env} {s : State} {m : MethodId} {args : Array Value} {below : List Frame} {meth : Method} {c : Code} {Q : State → Prop} {D : va_G} {cy ci : ClassId} {h : Nat → Nat} {A0 : Nat → Prop} {o : Int32 × MS} (X : CallFix p m c cX12_goes 11 s args wsX12_goes RX12) (hret : mRi p l e ({ frames := 4, cells := 0, slots := 0, locals := 102 } : Room) s m args below meth c Q cX12_goes D cy ci h A0 .boolean o) {x1 : Int32} {x2 : Int32} {x5 : Int32} {t0 : Int32} {I : Nat → Int32} {A : Nat → Nat → Int32} {H : Heap} {locs : List Loc} {ls : Array Slot} (hf : f_goes_241 x1 x2 x5 t0 I A = some o) (hM : mH D cy ci h A0 s H locs I A) (hl : lv_has ls 11 [(0, .ref (h 0)), (1, .int x1), (2, .int x2), (5, .int x5)]) : W p l e ({ frames := 4, cells := 0, slots := 0, locals := 102 } : Room) s m args below meth c H locs 0 0 Q (F0 m 241 ls [.int t0]) := by
  obtain ⟨hx, hb, hml, hown, hts⟩ := id X
  unfold f_goes_241 at hf
  refine lv_istore (lv' := [(8, .int t0), (0, .ref (h 0)), (1, .int x1), (2, .int x2), (5, .int x5)]) hx hb dX12_goes_241 hl (by decide) rfl (fun ls hl => ?_)
  refine lv_iload hx hb dX12_goes_243 (lv_at hl 4 rfl) ?_
  refine lv_if_le (tgt := 252) hx hb dX12_goes_245 (by decide) (fun cc1 => ?_) (fun cc1 => ?_)
  · replace hf := m_ifT hf cc1
    refine lv_iload hx hb dX12_goes_252 (lv_at hl 4 rfl) ?_
    refine lv_if_ge (tgt := 261) hx hb dX12_goes_254 (by decide) (fun cc1 => ?_) (fun cc1 => ?_)
    · replace hf := m_ifT hf cc1
      refine lv_iconst (v := (0 : Int32)) hx hb dX12_goes_261 (by decide) ?_
      exact w_goes_262 X hret hf hM (lv_sub hl [1, 2, 3, 0] rfl)
    · replace hf := m_ifF hf cc1
      refine lv_iconst (v := (-1 : Int32)) hx hb dX12_goes_257 (by decide) ?_
      refine lv_goto (tgt := 262) hx hb dX12_goes_258 (by decide) ?_
      exact w_goes_262 X hret hf hM (lv_sub hl [1, 2, 3, 0] rfl)
  · replace hf := m_ifF hf cc1
    refine lv_iconst (v := (1 : Int32)) hx hb dX12_goes_248 (by decide) ?_
    refine lv_goto (tgt := 262) hx hb dX12_goes_249 (by decide) ?_
    exact w_goes_262 X hret hf hM (lv_sub hl [1, 2, 3, 0] rfl)
def f_goes_222 (x1 : Int32) (x2 : Int32) (x4 : Int32) (x5 : Int32) (I : Nat → Int32) (A : Nat → Nat → Int32) : Option (Int32 × MS) :=
  m_if (x4 ≤ 0) (
  m_if (0 ≤ x4) (
  f_goes_241 x1 x2 x5 (0 : Int32) I A
  ) (
  f_goes_241 x1 x2 x5 (-1 : Int32) I A
  )
  ) (
  f_goes_241 x1 x2 x5 (1 : Int32) I A
  )

set_option maxRecDepth 100000 in
set_option maxHeartbeats 4000000 in
theorem w_goes_222 {p : Program} {l : Launch} {e : Env} {s : State} {m : MethodId} {args : Array Value} {below : List Frame} {meth : Method} {c : Code} {Q : State → Prop} {D : va_G} {cy ci : ClassId} {h : Nat → Nat} {A0 : Nat → Prop} {o : Int32 × MS} (X : CallFix p m c cX12_goes 11 s args wsX12_goes RX12) (hret : mRi p l e ({ frames := 4, cells := 0, slots := 0, locals := 102 } : Room) s m args below meth c Q cX12_goes D cy ci h A0 .boolean o) {x1 : Int32} {x2 : Int32} {x4 : Int32} {x5 : Int32} {I : Nat → Int32} {A : Nat → Nat → Int32} {H : Heap} {locs : List Loc} {ls : Array Slot} (hf : f_goes_222 x1 x2 x4 x5 I A = some o) (hM : mH D cy ci h A0 s H locs I A) (hl : lv_has ls 11 [(0, .ref (h 0)), (1, .int x1), (2, .int x2), (4, .int x4), (5, .int x5)]) : W p l e ({ frames := 4, cells := 0, slots := 0, locals := 102 } : Room) s m args below meth c H locs 0 0 Q (F0 m 222 ls []) := by
  obtain ⟨hx, hb, hml, hown, hts⟩ := id X
  unfold f_goes_222 at hf
  refine lv_iload hx hb dX12_goes_222 (lv_at hl 3 rfl) ?_
  refine lv_if_le (tgt := 231) hx hb dX12_goes_224 (by decide) (fun cc1 => ?_) (fun cc1 => ?_)
  · replace hf := m_ifT hf cc1
    refine lv_iload hx hb dX12_goes_231 (lv_at hl 3 rfl) ?_
    refine lv_if_ge (tgt := 240) hx hb dX12_goes_233 (by decide) (fun cc1 => ?_) (fun cc1 => ?_)
    · replace hf := m_ifT hf cc1
      refine lv_iconst (v := (0 : Int32)) hx hb dX12_goes_240 (by decide) ?_
      exact w_goes_241 X hret hf hM (lv_sub hl [0, 1, 2, 4] rfl)
    · replace hf := m_ifF hf cc1
      refine lv_iconst (v := (-1 : Int32)) hx hb dX12_goes_236 (by decide) ?_
      refine lv_goto (tgt := 241) hx hb dX12_goes_237 (by decide) ?_
      exact w_goes_241 X hret hf hM (lv_sub hl [0, 1, 2, 4] rfl)
  · replace hf := m_ifF hf cc1
    refine lv_iconst (v := (1 : Int32)) hx hb dX12_goes_227 (by decide) ?_
    refine lv_goto (tgt := 241) hx hb dX12_goes_228 (by decide) ?_
    exact w_goes_241 X hret hf hM (lv_sub hl [0, 1, 2, 4] rfl)
def f_goes_220 (I : Nat → Int32) (A : Nat → Nat → Int32) : Option (Int32 × MS) :=
  m_chk (vp_nar .boolean (0 : Int32) = (0 : Int32)) (some ((0 : Int32), (I, A)))

set_option maxRecDepth 100000 in
set_option maxHeartbeats 4000000 in
theorem w_goes_220 {p : Program} {l : Launch} {e : Env} {s : State} {m : MethodId} {args : Array Value} {below : List Frame} {meth : Method} {c : Code} {Q : State → Prop} {D : va_G} {cy ci : ClassId} {h : Nat → Nat} {A0 : Nat → Prop} {o : Int32 × MS} (X : CallFix p m c cX12_goes 11 s args wsX12_goes RX12) (hret : mRi p l e ({ frames := 4, cells := 0, slots := 0, locals := 102 } : Room) s m args below meth c Q cX12_goes D cy ci h A0 .boolean o) {I : Nat → Int32} {A : Nat → Nat → Int32} {H : Heap} {locs : List Loc} {ls : Array Slot} (hf : f_goes_220  I A = some o) (hM : mH D cy ci h A0 s H locs I A) (hl : lv_has ls 11 []) : W p l e ({ frames := 4, cells := 0, slots := 0, locals := 102 } : Room) s m args below meth c H locs 0 0 Q (F0 m 220 ls []) := by
  obtain ⟨hx, hb, hml, hown, hts⟩ := id X
  unfold f_goes_220 at hf
  refine lv_iconst (v := (0 : Int32)) hx hb dX12_goes_220 (by decide) ?_
  obtain ⟨cd, hf⟩ := m_chkE hf
  cases hf
  exact hret H locs _ ls hM (m_nb cd) dX12_goes_221
def f_goes_210 (x1 : Int32) (x2 : Int32) (x3 : Int32) (x4 : Int32) (x5 : Int32) (x7 : Int32) (I : Nat → Int32) (A : Nat → Nat → Int32) : Option (Int32 × MS) :=
  m_if (x7 = 0) (
  m_if (x3 = (4 : Int32)) (
  f_goes_220  I A
  ) (
  f_goes_222 x1 x2 x4 x5 I A
  )
  ) (
  f_goes_222 x1 x2 x4 x5 I A
  )

set_option maxRecDepth 100000 in
set_option maxHeartbeats 4000000 in
theorem w_goes_210 {p : Program} {l : Launch} {e : Env} {s : State} {m : MethodId} {args : Array Value} {below : List Frame} {meth : Method} {c : Code} {Q : State → Prop} {D : va_G} {cy ci : ClassId} {h : Nat → Nat} {A0 : Nat → Prop} {o : Int32 × MS} (X : CallFix p m c cX12_goes 11 s args wsX12_goes RX12) (hret : mRi p l e ({ frames := 4, cells := 0, slots := 0, locals := 102 } : Room) s m args below meth c Q cX12_goes D cy ci h A0 .boolean o) {x1 : Int32} {x2 : Int32} {x3 : Int32} {x4 : Int32} {x5 : Int32} {x7 : Int32} {I : Nat → Int32} {A : Nat → Nat → Int32} {H : Heap} {locs : List Loc} {ls : Array Slot} (hf : f_goes_210 x1 x2 x3 x4 x5 x7 I A = some o) (hM : mH D cy ci h A0 s H locs I A) (hl : lv_has ls 11 [(0, .ref (h 0)), (1, .int x1), (2, .int x2), (3, .int x3), (4, .int x4), (5, .int x5), (7, .int x7)]) : W p l e ({ frames := 4, cells := 0, slots := 0, locals := 102 } : Room) s m args below meth c H locs 0 0 Q (F0 m 210 ls []) := by
  obtain ⟨hx, hb, hml, hown, hts⟩ := id X
  unfold f_goes_210 at hf
  refine lv_iload hx hb dX12_goes_210 (lv_at hl 6 rfl) ?_
  refine lv_if_ne (tgt := 222) hx hb dX12_goes_212 (by decide) (fun cc1 => ?_) (fun cc1 => ?_)
  · replace hf := m_ifF hf cc1
    exact w_goes_222 X hret hf hM (lv_sub hl [0, 1, 2, 4, 5] rfl)
  · replace hf := m_ifT hf cc1
    refine lv_iload_n hx hb dX12_goes_215 rfl (lv_at hl 3 rfl) ?_
    refine lv_iconst (v := (4 : Int32)) hx hb dX12_goes_216 (by decide) ?_
    refine lv_icmp_ne (tgt := 222) hx hb dX12_goes_217 (by decide) (fun cc1 => ?_) (fun cc1 => ?_)
    · replace hf := m_ifF hf cc1
      exact w_goes_222 X hret hf hM (lv_sub hl [0, 1, 2, 4, 5] rfl)
    · replace hf := m_ifT hf cc1
      exact w_goes_220 X hret hf hM (lv_sub hl [] rfl)
def f_goes_200 (x1 : Int32) (x2 : Int32) (x3 : Int32) (x4 : Int32) (x5 : Int32) (x7 : Int32) (I : Nat → Int32) (A : Nat → Nat → Int32) : Option (Int32 × MS) :=
  m_if (x7 = 0) (
  f_goes_210 x1 x2 x3 x4 x5 x7 I A
  ) (
  m_if (x3 = (3 : Int32)) (
  f_goes_220  I A
  ) (
  f_goes_210 x1 x2 x3 x4 x5 x7 I A
  )
  )

set_option maxRecDepth 100000 in
set_option maxHeartbeats 4000000 in
theorem w_goes_200 {p : Program} {l : Launch} {e : Env} {s : State} {m : MethodId} {args : Array Value} {below : List Frame} {meth : Method} {c : Code} {Q : State → Prop} {D : va_G} {cy ci : ClassId} {h : Nat → Nat} {A0 : Nat → Prop} {o : Int32 × MS} (X : CallFix p m c cX12_goes 11 s args wsX12_goes RX12) (hret : mRi p l e ({ frames := 4, cells := 0, slots := 0, locals := 102 } : Room) s m args below meth c Q cX12_goes D cy ci h A0 .boolean o) {x1 : Int32} {x2 : Int32} {x3 : Int32} {x4 : Int32} {x5 : Int32} {x7 : Int32} {I : Nat → Int32} {A : Nat → Nat → Int32} {H : Heap} {locs : List Loc} {ls : Array Slot} (hf : f_goes_200 x1 x2 x3 x4 x5 x7 I A = some o) (hM : mH D cy ci h A0 s H locs I A) (hl : lv_has ls 11 [(0, .ref (h 0)), (1, .int x1), (2, .int x2), (3, .int x3), (4, .int x4), (5, .int x5), (7, .int x7)]) : W p l e ({ frames := 4, cells := 0, slots := 0, locals := 102 } : Room) s m args below meth c H locs 0 0 Q (F0 m 200 ls []) := by
  obtain ⟨hx, hb, hml, hown, hts⟩ := id X
  unfold f_goes_200 at hf
  refine lv_iload hx hb dX12_goes_200 (lv_at hl 6 rfl) ?_
  refine lv_if_eq (tgt := 210) hx hb dX12_goes_202 (by decide) (fun cc1 => ?_) (fun cc1 => ?_)
  · replace hf := m_ifT hf cc1
    exact w_goes_210 X hret hf hM (lv_sub hl [0, 1, 2, 3, 4, 5, 6] rfl)
  · replace hf := m_ifF hf cc1
    refine lv_iload_n hx hb dX12_goes_205 rfl (lv_at hl 3 rfl) ?_
    refine lv_iconst (v := (3 : Int32)) hx hb dX12_goes_206 (by decide) ?_
    refine lv_icmp_eq (tgt := 220) hx hb dX12_goes_207 (by decide) (fun cc1 => ?_) (fun cc1 => ?_)
    · replace hf := m_ifT hf cc1
      exact w_goes_220 X hret hf hM (lv_sub hl [] rfl)
    · replace hf := m_ifF hf cc1
      exact w_goes_210 X hret hf hM (lv_sub hl [0, 1, 2, 3, 4, 5, 6] rfl)
def f_goes_178 (x1 : Int32) (x2 : Int32) (x3 : Int32) (x4 : Int32) (x5 : Int32) (t0 : Int32) (I : Nat → Int32) (A : Nat → Nat → Int32) : Option (Int32 × MS) :=
  m_if (t0 = 0) (
  m_if (x4 = x5) (
  f_goes_200 x1 x2 x3 x4 x5 t0 I A
  ) (
  m_bnd (-x5) (fun v1 =>
  m_if (x4 = v1) (
  f_goes_200 x1 x2 x3 x4 x5 t0 I A
  ) (
  f_goes_220  I A
  ))
  )
  ) (
  f_goes_200 x1 x2 x3 x4 x5 t0 I A
  )

set_option maxRecDepth 100000 in
set_option maxHeartbeats 4000000 in
theorem w_goes_178 {p : Program} {l : Launch} {e : Env} {s : State} {m : MethodId} {args : Array Value} {below : List Frame} {meth : Method} {c : Code} {Q : State → Prop} {D : va_G} {cy ci : ClassId} {h : Nat → Nat} {A0 : Nat → Prop} {o : Int32 × MS} (X : CallFix p m c cX12_goes 11 s args wsX12_goes RX12) (hret : mRi p l e ({ frames := 4, cells := 0, slots := 0, locals := 102 } : Room) s m args below meth c Q cX12_goes D cy ci h A0 .boolean o) {x1 : Int32} {x2 : Int32} {x3 : Int32} {x4 : Int32} {x5 : Int32} {t0 : Int32} {I : Nat → Int32} {A : Nat → Nat → Int32} {H : Heap} {locs : List Loc} {ls : Array Slot} (hf : f_goes_178 x1 x2 x3 x4 x5 t0 I A = some o) (hM : mH D cy ci h A0 s H locs I A) (hl : lv_has ls 11 [(0, .ref (h 0)), (1, .int x1), (2, .int x2), (3, .int x3), (4, .int x4), (5, .int x5)]) : W p l e ({ frames := 4, cells := 0, slots := 0, locals := 102 } : Room) s m args below meth c H locs 0 0 Q (F0 m 178 ls [.int t0]) := by
  obtain ⟨hx, hb, hml, hown, hts⟩ := id X
  unfold f_goes_178 at hf
  refine lv_istore (lv' := [(7, .int t0), (0, .ref (h 0)), (1, .int x1), (2, .int x2), (3, .int x3), (4, .int x4), (5, .int x5)]) hx hb dX12_goes_178 hl (by decide) rfl (fun ls hl => ?_)
  refine lv_iload hx hb dX12_goes_180 (lv_at hl 0 rfl) ?_
  refine lv_if_ne (tgt := 200) hx hb dX12_goes_182 (by decide) (fun cc1 => ?_) (fun cc1 => ?_)
  · replace hf := m_ifF hf cc1
    exact w_goes_200 X hret hf hM (lv_sub hl [1, 2, 3, 4, 5, 6, 0] rfl)
  · replace hf := m_ifT hf cc1
    refine lv_iload hx hb dX12_goes_185 (lv_at hl 5 rfl) ?_
    refine lv_iload hx hb dX12_goes_187 (lv_at hl 6 rfl) ?_
    refine lv_icmp_eq (tgt := 200) hx hb dX12_goes_189 (by decide) (fun cc1 => ?_) (fun cc1 => ?_)
    · replace hf := m_ifT hf cc1
      exact w_goes_200 X hret hf hM (lv_sub hl [1, 2, 3, 4, 5, 6, 0] rfl)
    · replace hf := m_ifF hf cc1
      refine lv_iload hx hb dX12_goes_192 (lv_at hl 5 rfl) ?_
      refine lv_iload hx hb dX12_goes_194 (lv_at hl 6 rfl) ?_
      refine lv_ineg hx hb dX12_goes_196 ?_
      obtain ⟨v1, ev, hf⟩ := m_bndE hf
      refine m_top ev ?_
      clear ev
      refine lv_icmp_ne (tgt := 220) hx hb dX12_goes_197 (by decide) (fun cc1 => ?_) (fun cc1 => ?_)
      · replace hf := m_ifF hf cc1
        exact w_goes_220 X hret hf hM (lv_sub hl [] rfl)
      · replace hf := m_ifT hf cc1
        exact w_goes_200 X hret hf hM (lv_sub hl [1, 2, 3, 4, 5, 6, 0] rfl)
def f_goes_173 (x1 : Int32) (x2 : Int32) (x3 : Int32) (x4 : Int32) (x5 : Int32) (I : Nat → Int32) (A : Nat → Nat → Int32) : Option (Int32 × MS) :=
  f_goes_178 x1 x2 x3 x4 x5 (1 : Int32) I A

set_option maxRecDepth 100000 in
set_option maxHeartbeats 4000000 in
theorem w_goes_173 {p : Program} {l : Launch} {e : Env} {s : State} {m : MethodId} {args : Array Value} {below : List Frame} {meth : Method} {c : Code} {Q : State → Prop} {D : va_G} {cy ci : ClassId} {h : Nat → Nat} {A0 : Nat → Prop} {o : Int32 × MS} (X : CallFix p m c cX12_goes 11 s args wsX12_goes RX12) (hret : mRi p l e ({ frames := 4, cells := 0, slots := 0, locals := 102 } : Room) s m args below meth c Q cX12_goes D cy ci h A0 .boolean o) {x1 : Int32} {x2 : Int32} {x3 : Int32} {x4 : Int32} {x5 : Int32} {I : Nat → Int32} {A : Nat → Nat → Int32} {H : Heap} {locs : List Loc} {ls : Array Slot} (hf : f_goes_173 x1 x2 x3 x4 x5 I A = some o) (hM : mH D cy ci h A0 s H locs I A) (hl : lv_has ls 11 [(0, .ref (h 0)), (1, .int x1), (2, .int x2), (3, .int x3), (4, .int x4), (5, .int x5)]) : W p l e ({ frames := 4, cells := 0, slots := 0, locals := 102 } : Room) s m args below meth c H locs 0 0 Q (F0 m 173 ls []) := by
  obtain ⟨hx, hb, hml, hown, hts⟩ := id X
  unfold f_goes_173 at hf
  refine lv_iconst (v := (1 : Int32)) hx hb dX12_goes_173 (by decide) ?_
  refine lv_goto (tgt := 178) hx hb dX12_goes_174 (by decide) ?_
  exact w_goes_178 X hret hf hM (lv_sub hl [0, 1, 2, 3, 4, 5] rfl)
def f_goes_162 (t0 : Int32) (I : Nat → Int32) (A : Nat → Nat → Int32) : Option (Int32 × MS) :=
  m_chk (vp_nar .boolean t0 = t0) (some (t0, (I, A)))

set_option maxRecDepth 100000 in
set_option maxHeartbeats 4000000 in
theorem w_goes_162 {p : Program} {l : Launch} {e : Env} {s : State} {m : MethodId} {args : Array Value} {below : List Frame} {meth : Method} {c : Code} {Q : State → Prop} {D : va_G} {cy ci : ClassId} {h : Nat → Nat} {A0 : Nat → Prop} {o : Int32 × MS} (X : CallFix p m c cX12_goes 11 s args wsX12_goes RX12) (hret : mRi p l e ({ frames := 4, cells := 0, slots := 0, locals := 102 } : Room) s m args below meth c Q cX12_goes D cy ci h A0 .boolean o) {t0 : Int32} {I : Nat → Int32} {A : Nat → Nat → Int32} {H : Heap} {locs : List Loc} {ls : Array Slot} (hf : f_goes_162 t0 I A = some o) (hM : mH D cy ci h A0 s H locs I A) (hl : lv_has ls 11 []) : W p l e ({ frames := 4, cells := 0, slots := 0, locals := 102 } : Room) s m args below meth c H locs 0 0 Q (F0 m 162 ls [.int t0]) := by
  obtain ⟨hx, hb, hml, hown, hts⟩ := id X
  unfold f_goes_162 at hf
  obtain ⟨cd, hf⟩ := m_chkE hf
  cases hf
  exact hret H locs _ ls hM (m_nb cd) dX12_goes_162
def f_goes_157 (I : Nat → Int32) (A : Nat → Nat → Int32) : Option (Int32 × MS) :=
  f_goes_162 (1 : Int32) I A

set_option maxRecDepth 100000 in
set_option maxHeartbeats 4000000 in
theorem w_goes_157 {p : Program} {l : Launch} {e : Env} {s : State} {m : MethodId} {args : Array Value} {below : List Frame} {meth : Method} {c : Code} {Q : State → Prop} {D : va_G} {cy ci : ClassId} {h : Nat → Nat} {A0 : Nat → Prop} {o : Int32 × MS} (X : CallFix p m c cX12_goes 11 s args wsX12_goes RX12) (hret : mRi p l e ({ frames := 4, cells := 0, slots := 0, locals := 102 } : Room) s m args below meth c Q cX12_goes D cy ci h A0 .boolean o) {I : Nat → Int32} {A : Nat → Nat → Int32} {H : Heap} {locs : List Loc} {ls : Array Slot} (hf : f_goes_157  I A = some o) (hM : mH D cy ci h A0 s H locs I A) (hl : lv_has ls 11 []) : W p l e ({ frames := 4, cells := 0, slots := 0, locals := 102 } : Room) s m args below meth c H locs 0 0 Q (F0 m 157 ls []) := by
  obtain ⟨hx, hb, hml, hown, hts⟩ := id X
  unfold f_goes_157 at hf
  refine lv_iconst (v := (1 : Int32)) hx hb dX12_goes_157 (by decide) ?_
  refine lv_goto (tgt := 162) hx hb dX12_goes_158 (by decide) ?_
  exact w_goes_162 X hret hf hM (lv_sub hl [] rfl)
def f_goes_161 (I : Nat → Int32) (A : Nat → Nat → Int32) : Option (Int32 × MS) :=
  f_goes_162 (0 : Int32) I A

set_option maxRecDepth 100000 in
set_option maxHeartbeats 4000000 in
theorem w_goes_161 {p : Program} {l : Launch} {e : Env} {s : State} {m : MethodId} {args : Array Value} {below : List Frame} {meth : Method} {c : Code} {Q : State → Prop} {D : va_G} {cy ci : ClassId} {h : Nat → Nat} {A0 : Nat → Prop} {o : Int32 × MS} (X : CallFix p m c cX12_goes 11 s args wsX12_goes RX12) (hret : mRi p l e ({ frames := 4, cells := 0, slots := 0, locals := 102 } : Room) s m args below meth c Q cX12_goes D cy ci h A0 .boolean o) {I : Nat → Int32} {A : Nat → Nat → Int32} {H : Heap} {locs : List Loc} {ls : Array Slot} (hf : f_goes_161  I A = some o) (hM : mH D cy ci h A0 s H locs I A) (hl : lv_has ls 11 []) : W p l e ({ frames := 4, cells := 0, slots := 0, locals := 102 } : Room) s m args below meth c H locs 0 0 Q (F0 m 161 ls []) := by
  obtain ⟨hx, hb, hml, hown, hts⟩ := id X
  unfold f_goes_161 at hf
  refine lv_iconst (v := (0 : Int32)) hx hb dX12_goes_161 (by decide) ?_
  exact w_goes_162 X hret hf hM (lv_sub hl [] rfl)
def f_goes_112 (t0 : Int32) (I : Nat → Int32) (A : Nat → Nat → Int32) : Option (Int32 × MS) :=
  m_chk (vp_nar .boolean t0 = t0) (some (t0, (I, A)))

set_option maxRecDepth 100000 in
set_option maxHeartbeats 4000000 in
theorem w_goes_112 {p : Program} {l : Launch} {e : Env} {s : State} {m : MethodId} {args : Array Value} {below : List Frame} {meth : Method} {c : Code} {Q : State → Prop} {D : va_G} {cy ci : ClassId} {h : Nat → Nat} {A0 : Nat → Prop} {o : Int32 × MS} (X : CallFix p m c cX12_goes 11 s args wsX12_goes RX12) (hret : mRi p l e ({ frames := 4, cells := 0, slots := 0, locals := 102 } : Room) s m args below meth c Q cX12_goes D cy ci h A0 .boolean o) {t0 : Int32} {I : Nat → Int32} {A : Nat → Nat → Int32} {H : Heap} {locs : List Loc} {ls : Array Slot} (hf : f_goes_112 t0 I A = some o) (hM : mH D cy ci h A0 s H locs I A) (hl : lv_has ls 11 []) : W p l e ({ frames := 4, cells := 0, slots := 0, locals := 102 } : Room) s m args below meth c H locs 0 0 Q (F0 m 112 ls [.int t0]) := by
  obtain ⟨hx, hb, hml, hown, hts⟩ := id X
  unfold f_goes_112 at hf
  obtain ⟨cd, hf⟩ := m_chkE hf
  cases hf
  exact hret H locs _ ls hM (m_nb cd) dX12_goes_112
def f_goes_0 (x1 : Int32) (x2 : Int32) (I : Nat → Int32) (A : Nat → Nat → Int32) : Option (Int32 × MS) :=
  m_chk (¬ (x1 < 0 ∨ 64 ≤ (x1).toNatClampNeg)) (
  m_bnd (A 24 (x1).toNatClampNeg) (fun v1 =>
  m_cl (f_sideOf v1 I A) (fun r2 Ic2 Ac2 =>
  m_if (r2 = (Ic2 25)) (
  m_chk (¬ (x2 < 0 ∨ 64 ≤ (x2).toNatClampNeg)) (
  m_bnd (Ac2 24 (x2).toNatClampNeg) (fun v3 =>
  m_cl (f_sideOf v3 Ic2 Ac2) (fun r4 Ic4 Ac4 =>
  m_if (r4 = (Ic4 25)) (
  f_goes_37  Ic4 Ac4
  ) (
  m_if (x1 = x2) (
  f_goes_37  Ic4 Ac4
  ) (
  m_chk (¬ (x1 < 0 ∨ 64 ≤ (x1).toNatClampNeg)) (
  m_bnd (Ac4 24 (x1).toNatClampNeg) (fun v5 =>
  m_cl (f_kind v5 Ic4 Ac4) (fun r6 Ic6 Ac6 =>
  m_if (r6 = (1 : Int32)) (
  m_cl (f_pawnGoes x1 x2 Ic6 Ac6) (fun r19 Ic19 Ac19 =>
  m_chk (vp_nar .boolean r19 = r19) (some (r19, (Ic19, Ac19))))
  ) (
  m_bnd (x2 - x2 / (8 : Int32) * (8 : Int32)) (fun v7 =>
  m_bnd (x1 - x1 / (8 : Int32) * (8 : Int32)) (fun v8 =>
  m_bnd (v7 - v8) (fun v9 =>
  m_bnd (x2 / (8 : Int32)) (fun v10 =>
  m_bnd (x1 / (8 : Int32)) (fun v11 =>
  m_bnd (v10 - v11) (fun v12 =>
  m_bnd (v9 * v9) (fun v13 =>
  m_bnd (v12 * v12) (fun v14 =>
  m_bnd (v13 + v14) (fun v15 =>
  m_if (r6 = (2 : Int32)) (
  m_if (v15 = (5 : Int32)) (
  f_goes_112 (1 : Int32) Ic6 Ac6
  ) (
  f_goes_112 (0 : Int32) Ic6 Ac6
  )
  ) (
  m_if (r6 = (6 : Int32)) (
  m_if (v15 < (3 : Int32)) (
  f_goes_157  Ic6 Ac6
  ) (
  m_bnd ((56 : Int32) * (Ic6 25)) (fun v16 =>
  m_bnd ((4 : Int32) + v16) (fun v17 =>
  m_if (x1 = v17) (
  m_if (v12 = 0) (
  m_if (v15 = (4 : Int32)) (
  m_cl (f_mayCastle x2 Ic6 Ac6) (fun r18 Ic18 Ac18 =>
  m_if (r18 = 0) (
  f_goes_161  Ic18 Ac18
  ) (
  f_goes_157  Ic18 Ac18
  ))
  ) (
  f_goes_161  Ic6 Ac6
  )
  ) (
  f_goes_161  Ic6 Ac6
  )
  ) (
  f_goes_161  Ic6 Ac6
  )))
  )
  ) (
  m_if (v9 = 0) (
  f_goes_173 x1 x2 r6 v9 v12 Ic6 Ac6
  ) (
  m_if (v12 = 0) (
  f_goes_173 x1 x2 r6 v9 v12 Ic6 Ac6
  ) (
  f_goes_178 x1 x2 r6 v9 v12 (0 : Int32) Ic6 Ac6
  )
  )
  )
  ))))))))))
  ))))
  )
  ))))
  ) (
  f_goes_37  Ic2 Ac2
  ))))

set_option maxRecDepth 100000 in
set_option maxHeartbeats 4000000 in
theorem w_goes_0 {p : Program} {l : Launch} {e : Env} {s : State} {m : MethodId} {args : Array Value} {below : List Frame} {meth : Method} {c : Code} {Q : State → Prop} {D : va_G} {cy ci : ClassId} {h : Nat → Nat} {A0 : Nat → Prop} {o : Int32 × MS} (X : CallFix p m c cX12_goes 11 s args wsX12_goes RX12) (hret : mRi p l e ({ frames := 4, cells := 0, slots := 0, locals := 102 } : Room) s m args below meth c Q cX12_goes D cy ci h A0 .boolean o) {x1 : Int32} {x2 : Int32} {I : Nat → Int32} {A : Nat → Nat → Int32} {H : Heap} {locs : List Loc} {ls : Array Slot} (hf : f_goes_0 x1 x2 I A = some o) (hM : mH D cy ci h A0 s H locs I A) (hl : lv_has ls 11 [(0, .ref (h 0)), (1, .int x1), (2, .int x2)]) : W p l e ({ frames := 4, cells := 0, slots := 0, locals := 102 } : Room) s m args below meth c H locs 0 0 Q (F0 m 0 ls []) := by
  obtain ⟨hx, hb, hml, hown, hts⟩ := id X
  unfold f_goes_0 at hf
  refine lv_aload_n hx hb dX12_goes_0 rfl (lv_at hl 0 rfl) ?_
  refine m_get (v := .ref (h 24)) X hw_goes hM 24 (by decide) fl_goes_24 rfl dX12_goes_1 ?_
  refine lv_iload_n hx hb dX12_goes_4 rfl (lv_at hl 1 rfl) ?_
  obtain ⟨cd, hf⟩ := m_chkE hf
  refine m_iald X hM 24 20 64 rfl cd dX12_goes_5 ?_
  clear cd
  obtain ⟨v1, ev, hf⟩ := m_bndE hf
  refine m_top ev ?_
  clear ev
  obtain ⟨o2, ho, hf⟩ := m_clE hf
  refine m_callSi X hM (c_sideOf ho) gX12_goes_X12_sideOf rfl ⟨rfl, rfl⟩ hd_sideOf ⟨Nat.le_of_ble_eq_true rfl, Nat.le_of_ble_eq_true rfl⟩ rfl hl.1 rfl (Nat.le_of_ble_eq_true rfl) dX12_goes_6 (fun H locs hM => ?_)
  clear ho
  refine lv_aload_n hx hb dX12_goes_9 rfl (lv_at hl 0 rfl) ?_
  refine m_get (v := .int (o2.2.1 25)) X hw_goes hM 25 (by decide) fl_goes_25 rfl dX12_goes_10 ?_
  refine lv_icmp_ne (tgt := 37) hx hb dX12_goes_13 (by decide) (fun cc1 => ?_) (fun cc1 => ?_)
  · replace hf := m_ifF hf cc1
    exact w_goes_37 X hret hf hM (lv_sub hl [] rfl)
  · replace hf := m_ifT hf cc1
    refine lv_aload_n hx hb dX12_goes_16 rfl (lv_at hl 0 rfl) ?_
    refine m_get (v := .ref (h 24)) X hw_goes hM 24 (by decide) fl_goes_24 rfl dX12_goes_17 ?_
    refine lv_iload_n hx hb dX12_goes_20 rfl (lv_at hl 2 rfl) ?_
    obtain ⟨cd, hf⟩ := m_chkE hf
    refine m_iald X hM 24 20 64 rfl cd dX12_goes_21 ?_
    clear cd
    obtain ⟨v3, ev, hf⟩ := m_bndE hf
    refine m_top ev ?_
    clear ev
    obtain ⟨o4, ho, hf⟩ := m_clE hf
    refine m_callSi X hM (c_sideOf ho) gX12_goes_X12_sideOf rfl ⟨rfl, rfl⟩ hd_sideOf ⟨Nat.le_of_ble_eq_true rfl, Nat.le_of_ble_eq_true rfl⟩ rfl hl.1 rfl (Nat.le_of_ble_eq_true rfl) dX12_goes_22 (fun H locs hM => ?_)
    clear ho
    refine lv_aload_n hx hb dX12_goes_25 rfl (lv_at hl 0 rfl) ?_
    refine m_get (v := .int (o4.2.1 25)) X hw_goes hM 25 (by decide) fl_goes_25 rfl dX12_goes_26 ?_
    refine lv_icmp_eq (tgt := 37) hx hb dX12_goes_29 (by decide) (fun cc1 => ?_) (fun cc1 => ?_)
    · replace hf := m_ifT hf cc1
      exact w_goes_37 X hret hf hM (lv_sub hl [] rfl)
    · replace hf := m_ifF hf cc1
      refine lv_iload_n hx hb dX12_goes_32 rfl (lv_at hl 1 rfl) ?_
      refine lv_iload_n hx hb dX12_goes_33 rfl (lv_at hl 2 rfl) ?_
      refine lv_icmp_ne (tgt := 39) hx hb dX12_goes_34 (by decide) (fun cc1 => ?_) (fun cc1 => ?_)
      · replace hf := m_ifF hf cc1
        refine lv_aload_n hx hb dX12_goes_39 rfl (lv_at hl 0 rfl) ?_
        refine m_get (v := .ref (h 24)) X hw_goes hM 24 (by decide) fl_goes_24 rfl dX12_goes_40 ?_
        refine lv_iload_n hx hb dX12_goes_43 rfl (lv_at hl 1 rfl) ?_
        obtain ⟨cd, hf⟩ := m_chkE hf
        refine m_iald X hM 24 20 64 rfl cd dX12_goes_44 ?_
        clear cd
        obtain ⟨v5, ev, hf⟩ := m_bndE hf
        refine m_top ev ?_
        clear ev
        obtain ⟨o6, ho, hf⟩ := m_clE hf
        refine m_callSi X hM (c_kind ho) gX12_goes_X12_kind rfl ⟨rfl, rfl⟩ hd_kind ⟨Nat.le_of_ble_eq_true rfl, Nat.le_of_ble_eq_true rfl⟩ rfl hl.1 rfl (Nat.le_of_ble_eq_true rfl) dX12_goes_45 (fun H locs hM => ?_)
        clear ho
        refine lv_istore_n (lv' := [(3, .int o6.1), (0, .ref (h 0)), (1, .int x1), (2, .int x2)]) hx hb dX12_goes_48 rfl hl (by decide) rfl (fun ls hl => ?_)
        refine lv_iload_n hx hb dX12_goes_49 rfl (lv_at hl 0 rfl) ?_
        refine lv_iconst (v := (1 : Int32)) hx hb dX12_goes_50 (by decide) ?_
        refine lv_icmp_ne (tgt := 61) hx hb dX12_goes_51 (by decide) (fun cc1 => ?_) (fun cc1 => ?_)
        · replace hf := m_ifF hf cc1
          refine lv_iload_n hx hb dX12_goes_61 rfl (lv_at hl 3 rfl) ?_
          refine lv_bipush (v := (8 : Int32)) hx hb dX12_goes_62 (by decide) ?_
          refine lv_irem hx hb dX12_goes_64 (by decide) ?_
          obtain ⟨v7, ev, hf⟩ := m_bndE hf
          refine m_top ev ?_
          clear ev
          refine lv_iload_n hx hb dX12_goes_65 rfl (lv_at hl 2 rfl) ?_
          refine lv_bipush (v := (8 : Int32)) hx hb dX12_goes_66 (by decide) ?_
          refine lv_irem hx hb dX12_goes_68 (by decide) ?_
          obtain ⟨v8, ev, hf⟩ := m_bndE hf
          refine m_top ev ?_
          clear ev
          refine lv_isub hx hb dX12_goes_69 ?_
          obtain ⟨v9, ev, hf⟩ := m_bndE hf
          refine m_top ev ?_
          clear ev
          refine lv_istore (lv' := [(4, .int v9), (3, .int o6.1), (0, .ref (h 0)), (1, .int x1), (2, .int x2)]) hx hb dX12_goes_70 hl (by decide) rfl (fun ls hl => ?_)
          refine lv_iload_n hx hb dX12_goes_72 rfl (lv_at hl 4 rfl) ?_
          refine lv_bipush (v := (8 : Int32)) hx hb dX12_goes_73 (by decide) ?_
          refine lv_idiv hx hb dX12_goes_75 (by decide) ?_
          obtain ⟨v10, ev, hf⟩ := m_bndE hf
          refine m_top ev ?_
          clear ev
          refine lv_iload_n hx hb dX12_goes_76 rfl (lv_at hl 3 rfl) ?_
          refine lv_bipush (v := (8 : Int32)) hx hb dX12_goes_77 (by decide) ?_
          refine lv_idiv hx hb dX12_goes_79 (by decide) ?_
          obtain ⟨v11, ev, hf⟩ := m_bndE hf
          refine m_top ev ?_
          clear ev
          refine lv_isub hx hb dX12_goes_80 ?_
          obtain ⟨v12, ev, hf⟩ := m_bndE hf
          refine m_top ev ?_
          clear ev
          refine lv_istore (lv' := [(5, .int v12), (4, .int v9), (3, .int o6.1), (0, .ref (h 0)), (1, .int x1), (2, .int x2)]) hx hb dX12_goes_81 hl (by decide) rfl (fun ls hl => ?_)
          refine lv_iload hx hb dX12_goes_83 (lv_at hl 1 rfl) ?_
          refine lv_iload hx hb dX12_goes_85 (lv_at hl 1 rfl) ?_
          refine lv_imul hx hb dX12_goes_87 ?_
          obtain ⟨v13, ev, hf⟩ := m_bndE hf
          refine m_top ev ?_
          clear ev
          refine lv_iload hx hb dX12_goes_88 (lv_at hl 0 rfl) ?_
          refine lv_iload hx hb dX12_goes_90 (lv_at hl 0 rfl) ?_
          refine lv_imul hx hb dX12_goes_92 ?_
          obtain ⟨v14, ev, hf⟩ := m_bndE hf
          refine m_top ev ?_
          clear ev
          refine lv_iadd hx hb dX12_goes_93 ?_
          obtain ⟨v15, ev, hf⟩ := m_bndE hf
          refine m_top ev ?_
          clear ev
          refine lv_istore (lv' := [(6, .int v15), (5, .int v12), (4, .int v9), (3, .int o6.1), (0, .ref (h 0)), (1, .int x1), (2, .int x2)]) hx hb dX12_goes_94 hl (by decide) rfl (fun ls hl => ?_)
          refine lv_iload_n hx hb dX12_goes_96 rfl (lv_at hl 3 rfl) ?_
          refine lv_iconst (v := (2 : Int32)) hx hb dX12_goes_97 (by decide) ?_
          refine lv_icmp_ne (tgt := 113) hx hb dX12_goes_98 (by decide) (fun cc1 => ?_) (fun cc1 => ?_)
          · replace hf := m_ifF hf cc1
            refine lv_iload_n hx hb dX12_goes_113 rfl (lv_at hl 3 rfl) ?_
            refine lv_bipush (v := (6 : Int32)) hx hb dX12_goes_114 (by decide) ?_
            refine lv_icmp_ne (tgt := 163) hx hb dX12_goes_116 (by decide) (fun cc1 => ?_) (fun cc1 => ?_)
            · replace hf := m_ifF hf cc1
              refine lv_iload hx hb dX12_goes_163 (lv_at hl 2 rfl) ?_
              refine lv_if_eq (tgt := 173) hx hb dX12_goes_165 (by decide) (fun cc1 => ?_) (fun cc1 => ?_)
              · replace hf := m_ifT hf cc1
                exact w_goes_173 X hret hf hM (lv_sub hl [4, 5, 6, 3, 2, 1] rfl)
              · replace hf := m_ifF hf cc1
                refine lv_iload hx hb dX12_goes_168 (lv_at hl 1 rfl) ?_
                refine lv_if_ne (tgt := 177) hx hb dX12_goes_170 (by decide) (fun cc1 => ?_) (fun cc1 => ?_)
                · replace hf := m_ifF hf cc1
                  refine lv_iconst (v := (0 : Int32)) hx hb dX12_goes_177 (by decide) ?_
                  exact w_goes_178 X hret hf hM (lv_sub hl [4, 5, 6, 3, 2, 1] rfl)
                · replace hf := m_ifT hf cc1
                  exact w_goes_173 X hret hf hM (lv_sub hl [4, 5, 6, 3, 2, 1] rfl)
            · replace hf := m_ifT hf cc1
              refine lv_iload hx hb dX12_goes_119 (lv_at hl 0 rfl) ?_
              refine lv_iconst (v := (3 : Int32)) hx hb dX12_goes_121 (by decide) ?_
              refine lv_icmp_lt (tgt := 157) hx hb dX12_goes_122 (by decide) (fun cc1 => ?_) (fun cc1 => ?_)
              · replace hf := m_ifT hf cc1
                exact w_goes_157 X hret hf hM (lv_sub hl [] rfl)
              · replace hf := m_ifF hf cc1
                refine lv_iload_n hx hb dX12_goes_125 rfl (lv_at hl 5 rfl) ?_
                refine lv_iconst (v := (4 : Int32)) hx hb dX12_goes_126 (by decide) ?_
                refine lv_bipush (v := (56 : Int32)) hx hb dX12_goes_127 (by decide) ?_
                refine lv_aload_n hx hb dX12_goes_129 rfl (lv_at hl 4 rfl) ?_
                refine m_get (v := .int (o6.2.1 25)) X hw_goes hM 25 (by decide) fl_goes_25 rfl dX12_goes_130 ?_
                refine lv_imul hx hb dX12_goes_133 ?_
                obtain ⟨v16, ev, hf⟩ := m_bndE hf
                refine m_top ev ?_
                clear ev
                refine lv_iadd hx hb dX12_goes_134 ?_
                obtain ⟨v17, ev, hf⟩ := m_bndE hf
                refine m_top ev ?_
                clear ev
                refine lv_icmp_ne (tgt := 161) hx hb dX12_goes_135 (by decide) (fun cc1 => ?_) (fun cc1 => ?_)
                · replace hf := m_ifF hf cc1
                  exact w_goes_161 X hret hf hM (lv_sub hl [] rfl)
                · replace hf := m_ifT hf cc1
                  refine lv_iload hx hb dX12_goes_138 (lv_at hl 1 rfl) ?_
                  refine lv_if_ne (tgt := 161) hx hb dX12_goes_140 (by decide) (fun cc1 => ?_) (fun cc1 => ?_)
                  · replace hf := m_ifF hf cc1
                    exact w_goes_161 X hret hf hM (lv_sub hl [] rfl)
                  · replace hf := m_ifT hf cc1
                    refine lv_iload hx hb dX12_goes_143 (lv_at hl 0 rfl) ?_
                    refine lv_iconst (v := (4 : Int32)) hx hb dX12_goes_145 (by decide) ?_
                    refine lv_icmp_ne (tgt := 161) hx hb dX12_goes_146 (by decide) (fun cc1 => ?_) (fun cc1 => ?_)
                    · replace hf := m_ifF hf cc1
                      exact w_goes_161 X hret hf hM (lv_sub hl [] rfl)
                    · replace hf := m_ifT hf cc1
                      refine lv_aload_n hx hb dX12_goes_149 rfl (lv_at hl 4 rfl) ?_
                      refine lv_iload_n hx hb dX12_goes_150 rfl (lv_at hl 6 rfl) ?_
                      obtain ⟨o18, ho, hf⟩ := m_clE hf
                      refine m_callVi X hM (c_mayCastle ho) gX12_goes_X12_mayCastle rfl ⟨rfl, rfl⟩ hd_mayCastle ⟨Nat.le_of_ble_eq_true rfl, Nat.le_of_ble_eq_true rfl⟩ rfl hl.1 rfl (Nat.le_of_ble_eq_true rfl) dX12_goes_151 (fun H locs hM => ?_)
                      clear ho
                      refine lv_if_eq (tgt := 161) hx hb dX12_goes_154 (by decide) (fun cc1 => ?_) (fun cc1 => ?_)
                      · replace hf := m_ifT hf cc1
                        exact w_goes_161 X hret hf hM (lv_sub hl [] rfl)
                      · replace hf := m_ifF hf cc1
                        exact w_goes_157 X hret hf hM (lv_sub hl [] rfl)
          · replace hf := m_ifT hf cc1
            refine lv_iload hx hb dX12_goes_101 (lv_at hl 0 rfl) ?_
            refine lv_iconst (v := (5 : Int32)) hx hb dX12_goes_103 (by decide) ?_
            refine lv_icmp_ne (tgt := 111) hx hb dX12_goes_104 (by decide) (fun cc1 => ?_) (fun cc1 => ?_)
            · replace hf := m_ifF hf cc1
              refine lv_iconst (v := (0 : Int32)) hx hb dX12_goes_111 (by decide) ?_
              exact w_goes_112 X hret hf hM (lv_sub hl [] rfl)
            · replace hf := m_ifT hf cc1
              refine lv_iconst (v := (1 : Int32)) hx hb dX12_goes_107 (by decide) ?_
              refine lv_goto (tgt := 112) hx hb dX12_goes_108 (by decide) ?_
              exact w_goes_112 X hret hf hM (lv_sub hl [] rfl)
        · replace hf := m_ifT hf cc1
          refine lv_aload_n hx hb dX12_goes_54 rfl (lv_at hl 1 rfl) ?_
          refine lv_iload_n hx hb dX12_goes_55 rfl (lv_at hl 2 rfl) ?_
          refine lv_iload_n hx hb dX12_goes_56 rfl (lv_at hl 3 rfl) ?_
          obtain ⟨o19, ho, hf⟩ := m_clE hf
          refine m_callVi X hM (c_pawnGoes ho) gX12_goes_X12_pawnGoes rfl ⟨rfl, rfl⟩ hd_pawnGoes ⟨Nat.le_of_ble_eq_true rfl, Nat.le_of_ble_eq_true rfl⟩ rfl hl.1 rfl (Nat.le_of_ble_eq_true rfl) dX12_goes_57 (fun H locs hM => ?_)
          clear ho
          obtain ⟨cd, hf⟩ := m_chkE hf
          cases hf
          exact hret H locs _ ls hM (m_nb cd) dX12_goes_60
      · replace hf := m_ifT hf cc1
        exact w_goes_37 X hret hf hM (lv_sub hl [] rfl)
def f_goes (x1 : Int32) (x2 : Int32) (I : Nat → Int32) (A : Nat → Nat → Int32) : Option (Int32 × MS) := f_goes_0 x1 x2 I A
theorem c_goes {l : Launch} {D : va_G} {cy ci : ClassId} {h : Nat → Nat} {x1 : Int32} {x2 : Int32} {I : Nat → Int32} {A : Nat → Nat → Int32} {o : Int32 × MS} (hf : f_goes x1 x2 I A = some o) : mMi l yX12_goes wsX12_goes ({ frames := 4, cells := 0, slots := 0, locals := 102 } : Room) [.ref (h 0), .int x1, .int x2] D cy ci h I A o :=
  m_entryI (cc := cX12_goes) (maxL := 11) (by decide) rfl rfl (Nat.le_of_ble_eq_true rfl) (fun p e s m args below meth c A0 Q H locs ls X hret hM hl => w_goes_0 X hret hf hM (lv_sub hl [0, 1, 2] rfl))
theorem hw_keep : ∀ w ∈ wsX120, w ∈ wsX12_keep := by decide +kernel
theorem fl_keep_24 : Cond.fieldLink RX12 70 "MoveTextsModel" "men" "[I" ∈ wsX12_keep := by decide +kernel
theorem fl_keep_25 : Cond.fieldLink RX12 121 "MoveTextsModel" "side" "I" ∈ wsX12_keep := by decide +kernel
theorem fl_keep_26 : Cond.fieldLink RX12 124 "MoveTextsModel" "rights" "I" ∈ wsX12_keep := by decide +kernel
theorem fl_keep_27 : Cond.fieldLink RX12 127 "MoveTextsModel" "passed" "I" ∈ wsX12_keep := by decide +kernel
theorem fl_keep_28 : Cond.fieldLink RX12 130 "MoveTextsModel" "clock" "I" ∈ wsX12_keep := by decide +kernel
theorem fl_keep_29 : Cond.fieldLink RX12 133 "MoveTextsModel" "number" "I" ∈ wsX12_keep := by decide +kernel
theorem fl_keep_30 : Cond.fieldLink RX12 73 "MoveTextsModel" "keptMen" "[I" ∈ wsX12_keep := by decide +kernel
theorem fl_keep_31 : Cond.fieldLink RX12 76 "MoveTextsModel" "keptRest" "[I" ∈ wsX12_keep := by decide +kernel
theorem hd_keep : yX12_keep.cls = RX12 ∧ yX12_keep.cls ≠ "java/lang/invoke/MethodHandle" ∧ yX12_keep.cls ≠ "java/lang/invoke/VarHandle" ∧ (parseMethodDescriptor yX12_keep.desc).map (fun d => d.parameters.length) = some 0 := by decide +kernel
def f_keep_2s (self2 : Int32 → (Nat → Int32) → (Nat → Nat → Int32) → Option (Int32 × MS)) (x1 : Int32) (I : Nat → Int32) (A : Nat → Nat → Int32) : Option (Int32 × MS) :=
  m_if ((64 : Int32) ≤ x1) (
  m_chk (¬ ((0 : Int32) < 0 ∨ 5 ≤ ((0 : Int32)).toNatClampNeg)) (
  m_bnd (va_up A 31 (upd (A 31) ((0 : Int32)).toNatClampNeg (I 25))) (fun A1 =>
  m_chk (¬ ((1 : Int32) < 0 ∨ 5 ≤ ((1 : Int32)).toNatClampNeg)) (
  m_bnd (va_up A1 31 (upd (A1 31) ((1 : Int32)).toNatClampNeg (I 26))) (fun A2 =>
  m_chk (¬ ((2 : Int32) < 0 ∨ 5 ≤ ((2 : Int32)).toNatClampNeg)) (
  m_bnd (va_up A2 31 (upd (A2 31) ((2 : Int32)).toNatClampNeg (I 27))) (fun A3 =>
  m_chk (¬ ((3 : Int32) < 0 ∨ 5 ≤ ((3 : Int32)).toNatClampNeg)) (
  m_bnd (va_up A3 31 (upd (A3 31) ((3 : Int32)).toNatClampNeg (I 28))) (fun A4 =>
  m_chk (¬ ((4 : Int32) < 0 ∨ 5 ≤ ((4 : Int32)).toNatClampNeg)) (
  m_bnd (va_up A4 31 (upd (A4 31) ((4 : Int32)).toNatClampNeg (I 29))) (fun A5 =>
  some (0, (I, A5))))))))))))
  ) (
  m_chk (¬ (x1 < 0 ∨ 64 ≤ (x1).toNatClampNeg)) (
  m_bnd (A 24 (x1).toNatClampNeg) (fun v6 =>
  m_chk (¬ (x1 < 0 ∨ 64 ≤ (x1).toNatClampNeg)) (
  m_bnd (va_up A 30 (upd (A 30) (x1).toNatClampNeg v6)) (fun A7 =>
  m_bnd (x1 + (1 : Int32)) (fun v8 =>
  self2 v8 I A7)))))
  )

set_option maxRecDepth 100000 in
set_option maxHeartbeats 4000000 in
theorem ws_keep_2 {p : Program} {l : Launch} {e : Env} {s : State} {m : MethodId} {args : Array Value} {below : List Frame} {meth : Method} {c : Code} {Q : State → Prop} {D : va_G} {cy ci : ClassId} {h : Nat → Nat} {A0 : Nat → Prop} {o : Int32 × MS} (X : CallFix p m c cX12_keep 2 s args wsX12_keep RX12) (hret : mRv p l e ({ frames := 0, cells := 0, slots := 0, locals := 0 } : Room) s m args below meth c Q cX12_keep D cy ci h A0 o) {self2 : Int32 → (Nat → Int32) → (Nat → Nat → Int32) → Option (Int32 × MS)} (hself2 : ∀ (x1 : Int32) (I : Nat → Int32) (A : Nat → Nat → Int32) (H : Heap) (locs : List Loc) (ls : Array Slot), self2 x1 I A = some o → mH D cy ci h A0 s H locs I A → lv_has ls 2 [(0, .ref (h 0)), (1, .int x1)] → W p l e ({ frames := 0, cells := 0, slots := 0, locals := 0 } : Room) s m args below meth c H locs 0 0 Q (F0 m 2 ls [])) {x1 : Int32} {I : Nat → Int32} {A : Nat → Nat → Int32} {H : Heap} {locs : List Loc} {ls : Array Slot} (hf : f_keep_2s self2 x1 I A = some o) (hM : mH D cy ci h A0 s H locs I A) (hl : lv_has ls 2 [(0, .ref (h 0)), (1, .int x1)]) : W p l e ({ frames := 0, cells := 0, slots := 0, locals := 0 } : Room) s m args below meth c H locs 0 0 Q (F0 m 2 ls []) := by
  obtain ⟨hx, hb, hml, hown, hts⟩ := id X
  unfold f_keep_2s at hf
  refine lv_iload_n hx hb dX12_keep_2 rfl (lv_at hl 1 rfl) ?_
  refine lv_bipush (v := (64 : Int32)) hx hb dX12_keep_3 (by decide) ?_
  refine lv_icmp_ge (tgt := 26) hx hb dX12_keep_5 (by decide) (fun cc1 => ?_) (fun cc1 => ?_)
  · replace hf := m_ifT hf cc1
    refine lv_aload_n hx hb dX12_keep_26 rfl (lv_at hl 0 rfl) ?_
    refine m_get (v := .ref (h 31)) X hw_keep hM 31 (by decide) fl_keep_31 rfl dX12_keep_27 ?_
    refine lv_iconst (v := (0 : Int32)) hx hb dX12_keep_30 (by decide) ?_
    refine lv_aload_n hx hb dX12_keep_31 rfl (lv_at hl 0 rfl) ?_
    refine m_get (v := .int (I 25)) X hw_keep hM 25 (by decide) fl_keep_25 rfl dX12_keep_32 ?_
    obtain ⟨cd, hf⟩ := m_chkE hf
    refine m_iast X hM 31 22 5 rfl ma_31 cd dX12_keep_35 (fun H locs hM => ?_)
    clear cd
    obtain ⟨A1, ev, hf⟩ := m_bndE hf
    replace hM := m_hA hM ev
    clear ev
    refine lv_aload_n hx hb dX12_keep_36 rfl (lv_at hl 0 rfl) ?_
    refine m_get (v := .ref (h 31)) X hw_keep hM 31 (by decide) fl_keep_31 rfl dX12_keep_37 ?_
    refine lv_iconst (v := (1 : Int32)) hx hb dX12_keep_40 (by decide) ?_
    refine lv_aload_n hx hb dX12_keep_41 rfl (lv_at hl 0 rfl) ?_
    refine m_get (v := .int (I 26)) X hw_keep hM 26 (by decide) fl_keep_26 rfl dX12_keep_42 ?_
    obtain ⟨cd, hf⟩ := m_chkE hf
    refine m_iast X hM 31 22 5 rfl ma_31 cd dX12_keep_45 (fun H locs hM => ?_)
    clear cd
    obtain ⟨A2, ev, hf⟩ := m_bndE hf
    replace hM := m_hA hM ev
    clear ev
    refine lv_aload_n hx hb dX12_keep_46 rfl (lv_at hl 0 rfl) ?_
    refine m_get (v := .ref (h 31)) X hw_keep hM 31 (by decide) fl_keep_31 rfl dX12_keep_47 ?_
    refine lv_iconst (v := (2 : Int32)) hx hb dX12_keep_50 (by decide) ?_
    refine lv_aload_n hx hb dX12_keep_51 rfl (lv_at hl 0 rfl) ?_
    refine m_get (v := .int (I 27)) X hw_keep hM 27 (by decide) fl_keep_27 rfl dX12_keep_52 ?_
    obtain ⟨cd, hf⟩ := m_chkE hf
    refine m_iast X hM 31 22 5 rfl ma_31 cd dX12_keep_55 (fun H locs hM => ?_)
    clear cd
    obtain ⟨A3, ev, hf⟩ := m_bndE hf
    replace hM := m_hA hM ev
    clear ev
    refine lv_aload_n hx hb dX12_keep_56 rfl (lv_at hl 0 rfl) ?_
    refine m_get (v := .ref (h 31)) X hw_keep hM 31 (by decide) fl_keep_31 rfl dX12_keep_57 ?_
    refine lv_iconst (v := (3 : Int32)) hx hb dX12_keep_60 (by decide) ?_
    refine lv_aload_n hx hb dX12_keep_61 rfl (lv_at hl 0 rfl) ?_
    refine m_get (v := .int (I 28)) X hw_keep hM 28 (by decide) fl_keep_28 rfl dX12_keep_62 ?_
    obtain ⟨cd, hf⟩ := m_chkE hf
    refine m_iast X hM 31 22 5 rfl ma_31 cd dX12_keep_65 (fun H locs hM => ?_)
    clear cd
    obtain ⟨A4, ev, hf⟩ := m_bndE hf
    replace hM := m_hA hM ev
    clear ev
    refine lv_aload_n hx hb dX12_keep_66 rfl (lv_at hl 0 rfl) ?_
    refine m_get (v := .ref (h 31)) X hw_keep hM 31 (by decide) fl_keep_31 rfl dX12_keep_67 ?_
    refine lv_iconst (v := (4 : Int32)) hx hb dX12_keep_70 (by decide) ?_
    refine lv_aload_n hx hb dX12_keep_71 rfl (lv_at hl 0 rfl) ?_
    refine m_get (v := .int (I 29)) X hw_keep hM 29 (by decide) fl_keep_29 rfl dX12_keep_72 ?_
    obtain ⟨cd, hf⟩ := m_chkE hf
    refine m_iast X hM 31 22 5 rfl ma_31 cd dX12_keep_75 (fun H locs hM => ?_)
    clear cd
    obtain ⟨A5, ev, hf⟩ := m_bndE hf
    replace hM := m_hA hM ev
    clear ev
    cases hf
    exact hret H locs _ ls hM dX12_keep_76
  · replace hf := m_ifF hf cc1
    refine lv_aload_n hx hb dX12_keep_8 rfl (lv_at hl 0 rfl) ?_
    refine m_get (v := .ref (h 30)) X hw_keep hM 30 (by decide) fl_keep_30 rfl dX12_keep_9 ?_
    refine lv_iload_n hx hb dX12_keep_12 rfl (lv_at hl 1 rfl) ?_
    refine lv_aload_n hx hb dX12_keep_13 rfl (lv_at hl 0 rfl) ?_
    refine m_get (v := .ref (h 24)) X hw_keep hM 24 (by decide) fl_keep_24 rfl dX12_keep_14 ?_
    refine lv_iload_n hx hb dX12_keep_17 rfl (lv_at hl 1 rfl) ?_
    obtain ⟨cd, hf⟩ := m_chkE hf
    refine m_iald X hM 24 20 64 rfl cd dX12_keep_18 ?_
    clear cd
    obtain ⟨v6, ev, hf⟩ := m_bndE hf
    refine m_top ev ?_
    clear ev
    obtain ⟨cd, hf⟩ := m_chkE hf
    refine m_iast X hM 30 21 64 rfl ma_30 cd dX12_keep_19 (fun H locs hM => ?_)
    clear cd
    obtain ⟨A7, ev, hf⟩ := m_bndE hf
    replace hM := m_hA hM ev
    clear ev
    obtain ⟨v8, ev, hf⟩ := m_bndE hf
    refine lv_iinc (v := v8) (lv' := [(1, .int v8), (0, .ref (h 0))]) hx hb dX12_keep_20 hl (k := 1) rfl (by rw [ev]; rfl) (by decide) rfl (fun ls hl => ?_)
    clear ev
    refine lv_goto (tgt := 2) hx hb dX12_keep_23 (by decide) ?_
    exact hself2 _ _ _ _ _ _ hf hM (lv_sub hl [1, 0] rfl)
def f_keep_2 : Nat → Int32 → (Nat → Int32) → (Nat → Nat → Int32) → Option (Int32 × MS)
  | 0 => fun _ _ _ => none
  | n + 1 => f_keep_2s (f_keep_2 n)
theorem w_keep_2 {p : Program} {l : Launch} {e : Env} {s : State} {m : MethodId} {args : Array Value} {below : List Frame} {meth : Method} {c : Code} {Q : State → Prop} {D : va_G} {cy ci : ClassId} {h : Nat → Nat} {A0 : Nat → Prop} {o : Int32 × MS} (X : CallFix p m c cX12_keep 2 s args wsX12_keep RX12) (hret : mRv p l e ({ frames := 0, cells := 0, slots := 0, locals := 0 } : Room) s m args below meth c Q cX12_keep D cy ci h A0 o) (n : Nat) : ∀ (x1 : Int32) (I : Nat → Int32) (A : Nat → Nat → Int32) (H : Heap) (locs : List Loc) (ls : Array Slot), f_keep_2 n x1 I A = some o → mH D cy ci h A0 s H locs I A → lv_has ls 2 [(0, .ref (h 0)), (1, .int x1)] → W p l e ({ frames := 0, cells := 0, slots := 0, locals := 0 } : Room) s m args below meth c H locs 0 0 Q (F0 m 2 ls []) := by
  induction n with
  | zero => intro x1 I A H locs ls hf; cases hf
  | succ n ih => intro x1 I A H locs ls hf hM hl; exact ws_keep_2 X hret (self2 := f_keep_2 n) ih hf hM hl
def f_keep_0 (I : Nat → Int32) (A : Nat → Nat → Int32) : Option (Int32 × MS) :=
  f_keep_2 mFuel (0 : Int32) I A

set_option maxRecDepth 100000 in
set_option maxHeartbeats 4000000 in
theorem w_keep_0 {p : Program} {l : Launch} {e : Env} {s : State} {m : MethodId} {args : Array Value} {below : List Frame} {meth : Method} {c : Code} {Q : State → Prop} {D : va_G} {cy ci : ClassId} {h : Nat → Nat} {A0 : Nat → Prop} {o : Int32 × MS} (X : CallFix p m c cX12_keep 2 s args wsX12_keep RX12) (hret : mRv p l e ({ frames := 0, cells := 0, slots := 0, locals := 0 } : Room) s m args below meth c Q cX12_keep D cy ci h A0 o) {I : Nat → Int32} {A : Nat → Nat → Int32} {H : Heap} {locs : List Loc} {ls : Array Slot} (hf : f_keep_0  I A = some o) (hM : mH D cy ci h A0 s H locs I A) (hl : lv_has ls 2 [(0, .ref (h 0))]) : W p l e ({ frames := 0, cells := 0, slots := 0, locals := 0 } : Room) s m args below meth c H locs 0 0 Q (F0 m 0 ls []) := by
  obtain ⟨hx, hb, hml, hown, hts⟩ := id X
  unfold f_keep_0 at hf
  refine lv_iconst (v := (0 : Int32)) hx hb dX12_keep_0 (by decide) ?_
  refine lv_istore_n (lv' := [(1, .int (0 : Int32)), (0, .ref (h 0))]) hx hb dX12_keep_1 rfl hl (by decide) rfl (fun ls hl => ?_)
  exact w_keep_2 X hret _ _ _ _ _ _ _ hf hM (lv_sub hl [1, 0] rfl)
def f0_keep (I : Nat → Int32) (A : Nat → Nat → Int32) : Option (Int32 × MS) := f_keep_0  I A
theorem c0_keep {l : Launch} {D : va_G} {cy ci : ClassId} {h : Nat → Nat} {I : Nat → Int32} {A : Nat → Nat → Int32} {o : Int32 × MS} (hf : f0_keep  I A = some o) : mMv l yX12_keep wsX12_keep ({ frames := 0, cells := 0, slots := 0, locals := 0 } : Room) [.ref (h 0)] D cy ci h I A o :=
  m_entryV (cc := cX12_keep) (maxL := 2) (by decide) rfl rfl (Nat.le_of_ble_eq_true rfl) (fun p e s m args below meth c A0 Q H locs ls X hret hM hl => w_keep_0 X hret hf hM (lv_sub hl [0] rfl))
