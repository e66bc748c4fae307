/-- a call of the reference, its answer and state taken apart -/
def m_cl {γ : Type} (e : Option (Int32 × MS)) (k : Int32 → (Nat → Int32) → (Nat → Nat → Int32) → Option γ) : Option γ := match e with
  | none => none
  | some (v, (I, A)) => k v I A
theorem m_clE {γ : Type} {e : Option (Int32 × MS)} {k : Int32 → (Nat → Int32) → (Nat → Nat → Int32) → Option γ} {r : γ} (hf : m_cl e k = some r) : ∃ o : Int32 × MS, e = some o ∧ k o.1 o.2.1 o.2.2 = some r := by
  cases e with
  | none => cases hf
  | some o =>
    obtain ⟨v, I, A⟩ := o
    exact ⟨_, rfl, hf⟩
theorem hw_clearNode : ∀ w ∈ wsX120, w ∈ wsX12_clearNode := by decide +kernel
theorem fl_clearNode_10 : Cond.fieldLink RX12 27 "MoveTextsModel" "child" "[I" ∈ wsX12_clearNode := by decide +kernel
theorem fl_clearNode_11 : Cond.fieldLink RX12 30 "MoveTextsModel" "next" "[I" ∈ wsX12_clearNode := by decide +kernel
theorem fl_clearNode_12 : Cond.fieldLink RX12 33 "MoveTextsModel" "markCount" "[I" ∈ wsX12_clearNode := by decide +kernel
theorem fl_clearNode_14 : Cond.fieldLink RX12 39 "MoveTextsModel" "remarkSize" "[I" ∈ wsX12_clearNode := by decide +kernel
theorem hd_clearNode : yX12_clearNode.cls = RX12 ∧ yX12_clearNode.cls ≠ "java/lang/invoke/MethodHandle" ∧ yX12_clearNode.cls ≠ "java/lang/invoke/VarHandle" ∧ (parseMethodDescriptor yX12_clearNode.desc).map (fun d => d.parameters.length) = some 1 := by decide +kernel
def f_clearNode_0 (x1 : Int32) (I : Nat → Int32) (A : Nat → Nat → Int32) : Option (Int32 × MS) :=
  m_chk (¬ (x1 < 0 ∨ 602 ≤ (x1).toNatClampNeg)) (
  m_bnd (va_up A 10 (upd (A 10) (x1).toNatClampNeg (-1 : Int32))) (fun A1 =>
  m_chk (¬ (x1 < 0 ∨ 602 ≤ (x1).toNatClampNeg)) (
  m_bnd (va_up A1 11 (upd (A1 11) (x1).toNatClampNeg (-1 : Int32))) (fun A2 =>
  m_chk (¬ (x1 < 0 ∨ 602 ≤ (x1).toNatClampNeg)) (
  m_bnd (va_up A2 12 (upd (A2 12) (x1).toNatClampNeg (0 : Int32))) (fun A3 =>
  m_chk (¬ (x1 < 0 ∨ 602 ≤ (x1).toNatClampNeg)) (
  m_bnd (va_up A3 14 (upd (A3 14) (x1).toNatClampNeg (0 : Int32))) (fun A4 =>
  some (0, (I, A4))))))))))

set_option maxRecDepth 100000 in
set_option maxHeartbeats 4000000 in
theorem w_clearNode_0 {p : Program} {l : Launch} {e : Env} {s : State} {m : MethodId} {args : Array Value} {below : List Frame} {meth : Method} {c : Code} {Q : State → Prop} {D : va_G} {cy ci : ClassId} {h : Nat → Nat} {A0 : Nat → Prop} {o : Int32 × MS} (X : CallFix p m c cX12_clearNode 2 s args wsX12_clearNode RX12) (hret : mRv p l e ({ frames := 0, cells := 0, slots := 0, locals := 0 } : Room) s m args below meth c Q cX12_clearNode D cy ci h A0 o) {x1 : Int32} {I : Nat → Int32} {A : Nat → Nat → Int32} {H : Heap} {locs : List Loc} {ls : Array Slot} (hf : f_clearNode_0 x1 I A = some o) (hM : mH D cy ci h A0 s H locs I A) (hl : lv_has ls 2 [(0, .ref (h 0)), (1, .int x1)]) : W p l e ({ frames := 0, cells := 0, slots := 0, locals := 0 } : Room) s m args below meth c H locs 0 0 Q (F0 m 0 ls []) := by
  obtain ⟨hx, hb, hml, hown, hts⟩ := id X
  unfold f_clearNode_0 at hf
  refine lv_aload_n hx hb dX12_clearNode_0 rfl (lv_at hl 0 rfl) ?_
  refine m_get (v := .ref (h 10)) X hw_clearNode hM 10 (by decide) fl_clearNode_10 rfl dX12_clearNode_1 ?_
  refine lv_iload_n hx hb dX12_clearNode_4 rfl (lv_at hl 1 rfl) ?_
  refine lv_iconst (v := (-1 : Int32)) hx hb dX12_clearNode_5 (by decide) ?_
  obtain ⟨cd, hf⟩ := m_chkE hf
  refine m_iast X hM 10 6 602 rfl ma_10 cd dX12_clearNode_6 (fun H locs hM => ?_)
  clear cd
  obtain ⟨A1, ev, hf⟩ := m_bndE hf
  replace hM := m_hA hM ev
  clear ev
  refine lv_aload_n hx hb dX12_clearNode_7 rfl (lv_at hl 0 rfl) ?_
  refine m_get (v := .ref (h 11)) X hw_clearNode hM 11 (by decide) fl_clearNode_11 rfl dX12_clearNode_8 ?_
  refine lv_iload_n hx hb dX12_clearNode_11 rfl (lv_at hl 1 rfl) ?_
  refine lv_iconst (v := (-1 : Int32)) hx hb dX12_clearNode_12 (by decide) ?_
  obtain ⟨cd, hf⟩ := m_chkE hf
  refine m_iast X hM 11 7 602 rfl ma_11 cd dX12_clearNode_13 (fun H locs hM => ?_)
  clear cd
  obtain ⟨A2, ev, hf⟩ := m_bndE hf
  replace hM := m_hA hM ev
  clear ev
  refine lv_aload_n hx hb dX12_clearNode_14 rfl (lv_at hl 0 rfl) ?_
  refine m_get (v := .ref (h 12)) X hw_clearNode hM 12 (by decide) fl_clearNode_12 rfl dX12_clearNode_15 ?_
  refine lv_iload_n hx hb dX12_clearNode_18 rfl (lv_at hl 1 rfl) ?_
  refine lv_iconst (v := (0 : Int32)) hx hb dX12_clearNode_19 (by decide) ?_
  obtain ⟨cd, hf⟩ := m_chkE hf
  refine m_iast X hM 12 8 602 rfl ma_12 cd dX12_clearNode_20 (fun H locs hM => ?_)
  clear cd
  obtain ⟨A3, ev, hf⟩ := m_bndE hf
  replace hM := m_hA hM ev
  clear ev
  refine lv_aload_n hx hb dX12_clearNode_21 rfl (lv_at hl 0 rfl) ?_
  refine m_get (v := .ref (h 14)) X hw_clearNode hM 14 (by decide) fl_clearNode_14 rfl dX12_clearNode_22 ?_
  refine lv_iload_n hx hb dX12_clearNode_25 rfl (lv_at hl 1 rfl) ?_
  refine lv_iconst (v := (0 : Int32)) hx hb dX12_clearNode_26 (by decide) ?_
  obtain ⟨cd, hf⟩ := m_chkE hf
  refine m_iast X hM 14 10 602 rfl ma_14 cd dX12_clearNode_27 (fun H locs hM => ?_)
  clear cd
  obtain ⟨A4, ev, hf⟩ := m_bndE hf
  replace hM := m_hA hM ev
  clear ev
  cases hf
  exact hret H locs _ ls hM dX12_clearNode_28
def f_clearNode (x1 : Int32) (I : Nat → Int32) (A : Nat → Nat → Int32) : Option (Int32 × MS) := f_clearNode_0 x1 I A
theorem c_clearNode {l : Launch} {D : va_G} {cy ci : ClassId} {h : Nat → Nat} {x1 : Int32} {I : Nat → Int32} {A : Nat → Nat → Int32} {o : Int32 × MS} (hf : f_clearNode x1 I A = some o) : mMv l yX12_clearNode wsX12_clearNode ({ frames := 0, cells := 0, slots := 0, locals := 0 } : Room) [.ref (h 0), .int x1] D cy ci h I A o :=
  m_entryV (cc := cX12_clearNode) (maxL := 2) (by decide) rfl rfl (Nat.le_of_ble_eq_true rfl) (fun p e s m args below meth c A0 Q H locs ls X hret hM hl => w_clearNode_0 X hret hf hM (lv_sub hl [0, 1] rfl))
theorem hw_clearGame : ∀ w ∈ wsX120, w ∈ wsX12_clearGame := by decide +kernel
theorem fl_clearGame_7 : Cond.fieldLink RX12 17 "MoveTextsModel" "count" "[I" ∈ wsX12_clearGame := by decide +kernel
theorem fl_clearGame_8 : Cond.fieldLink RX12 21 "MoveTextsModel" "parent" "[I" ∈ wsX12_clearGame := by decide +kernel
theorem fl_clearGame_9 : Cond.fieldLink RX12 24 "MoveTextsModel" "moveOf" "[I" ∈ wsX12_clearGame := by decide +kernel
theorem fl_clearGame_18 : Cond.fieldLink RX12 52 "MoveTextsModel" "tagCount" "[I" ∈ wsX12_clearGame := by decide +kernel
theorem fl_clearGame_23 : Cond.fieldLink RX12 67 "MoveTextsModel" "results" "[I" ∈ wsX12_clearGame := by decide +kernel
theorem hd_clearGame : yX12_clearGame.cls = RX12 ∧ yX12_clearGame.cls ≠ "java/lang/invoke/MethodHandle" ∧ yX12_clearGame.cls ≠ "java/lang/invoke/VarHandle" ∧ (parseMethodDescriptor yX12_clearGame.desc).map (fun d => d.parameters.length) = some 1 := by decide +kernel
def f_clearGame_0 (x1 : Int32) (I : Nat → Int32) (A : Nat → Nat → Int32) : Option (Int32 × MS) :=
  m_chk (¬ (x1 < 0 ∨ 2 ≤ (x1).toNatClampNeg)) (
  m_bnd (va_up A 7 (upd (A 7) (x1).toNatClampNeg (0 : Int32))) (fun A1 =>
  m_chk (¬ (x1 < 0 ∨ 2 ≤ (x1).toNatClampNeg)) (
  m_bnd (va_up A1 18 (upd (A1 18) (x1).toNatClampNeg (0 : Int32))) (fun A2 =>
  m_chk (¬ (x1 < 0 ∨ 2 ≤ (x1).toNatClampNeg)) (
  m_bnd (va_up A2 23 (upd (A2 23) (x1).toNatClampNeg (0 : Int32))) (fun A3 =>
  m_bnd ((301 : Int32) * x1) (fun v4 =>
  m_cl (f_clearNode v4 I A3) (fun r5 Ic5 Ac5 =>
  m_bnd ((301 : Int32) * x1) (fun v6 =>
  m_chk (¬ (v6 < 0 ∨ 602 ≤ (v6).toNatClampNeg)) (
  m_bnd (va_up Ac5 8 (upd (Ac5 8) (v6).toNatClampNeg (-1 : Int32))) (fun A7 =>
  m_bnd ((301 : Int32) * x1) (fun v8 =>
  m_chk (¬ (v8 < 0 ∨ 602 ≤ (v8).toNatClampNeg)) (
  m_bnd (va_up A7 9 (upd (A7 9) (v8).toNatClampNeg (-1 : Int32))) (fun A9 =>
  some (0, (Ic5, A9))))))))))))))))

set_option maxRecDepth 100000 in
set_option maxHeartbeats 4000000 in
theorem w_clearGame_0 {p : Program} {l : Launch} {e : Env} {s : State} {m : MethodId} {args : Array Value} {below : List Frame} {meth : Method} {c : Code} {Q : State → Prop} {D : va_G} {cy ci : ClassId} {h : Nat → Nat} {A0 : Nat → Prop} {o : Int32 × MS} (X : CallFix p m c cX12_clearGame 2 s args wsX12_clearGame RX12) (hret : mRv p l e ({ frames := 1, cells := 0, slots := 0, locals := 21 } : Room) s m args below meth c Q cX12_clearGame D cy ci h A0 o) {x1 : Int32} {I : Nat → Int32} {A : Nat → Nat → Int32} {H : Heap} {locs : List Loc} {ls : Array Slot} (hf : f_clearGame_0 x1 I A = some o) (hM : mH D cy ci h A0 s H locs I A) (hl : lv_has ls 2 [(0, .ref (h 0)), (1, .int x1)]) : W p l e ({ frames := 1, cells := 0, slots := 0, locals := 21 } : Room) s m args below meth c H locs 0 0 Q (F0 m 0 ls []) := by
  obtain ⟨hx, hb, hml, hown, hts⟩ := id X
  unfold f_clearGame_0 at hf
  refine lv_aload_n hx hb dX12_clearGame_0 rfl (lv_at hl 0 rfl) ?_
  refine m_get (v := .ref (h 7)) X hw_clearGame hM 7 (by decide) fl_clearGame_7 rfl dX12_clearGame_1 ?_
  refine lv_iload_n hx hb dX12_clearGame_4 rfl (lv_at hl 1 rfl) ?_
  refine lv_iconst (v := (0 : Int32)) hx hb dX12_clearGame_5 (by decide) ?_
  obtain ⟨cd, hf⟩ := m_chkE hf
  refine m_iast X hM 7 3 2 rfl ma_7 cd dX12_clearGame_6 (fun H locs hM => ?_)
  clear cd
  obtain ⟨A1, ev, hf⟩ := m_bndE hf
  replace hM := m_hA hM ev
  clear ev
  refine lv_aload_n hx hb dX12_clearGame_7 rfl (lv_at hl 0 rfl) ?_
  refine m_get (v := .ref (h 18)) X hw_clearGame hM 18 (by decide) fl_clearGame_18 rfl dX12_clearGame_8 ?_
  refine lv_iload_n hx hb dX12_clearGame_11 rfl (lv_at hl 1 rfl) ?_
  refine lv_iconst (v := (0 : Int32)) hx hb dX12_clearGame_12 (by decide) ?_
  obtain ⟨cd, hf⟩ := m_chkE hf
  refine m_iast X hM 18 14 2 rfl ma_18 cd dX12_clearGame_13 (fun H locs hM => ?_)
  clear cd
  obtain ⟨A2, ev, hf⟩ := m_bndE hf
  replace hM := m_hA hM ev
  clear ev
  refine lv_aload_n hx hb dX12_clearGame_14 rfl (lv_at hl 0 rfl) ?_
  refine m_get (v := .ref (h 23)) X hw_clearGame hM 23 (by decide) fl_clearGame_23 rfl dX12_clearGame_15 ?_
  refine lv_iload_n hx hb dX12_clearGame_18 rfl (lv_at hl 1 rfl) ?_
  refine lv_iconst (v := (0 : Int32)) hx hb dX12_clearGame_19 (by decide) ?_
  obtain ⟨cd, hf⟩ := m_chkE hf
  refine m_iast X hM 23 19 2 rfl ma_23 cd dX12_clearGame_20 (fun H locs hM => ?_)
  clear cd
  obtain ⟨A3, ev, hf⟩ := m_bndE hf
  replace hM := m_hA hM ev
  clear ev
  refine lv_aload_n hx hb dX12_clearGame_21 rfl (lv_at hl 0 rfl) ?_
  refine lv_sipush (v := (301 : Int32)) hx hb dX12_clearGame_22 (by decide) ?_
  refine lv_iload_n hx hb dX12_clearGame_25 rfl (lv_at hl 1 rfl) ?_
  refine lv_imul hx hb dX12_clearGame_26 ?_
  obtain ⟨v4, ev, hf⟩ := m_bndE hf
  refine m_top ev ?_
  clear ev
  obtain ⟨o5, ho, hf⟩ := m_clE hf
  refine m_callVv X hM (c_clearNode ho) gX12_clearGame_X12_clearNode rfl ⟨rfl, rfl⟩ hd_clearNode ⟨Nat.le_of_ble_eq_true rfl, Nat.le_of_ble_eq_true rfl⟩ rfl hl.1 rfl (Nat.le_of_ble_eq_true rfl) dX12_clearGame_27 (fun H locs hM => ?_)
  clear ho
  refine lv_aload_n hx hb dX12_clearGame_30 rfl (lv_at hl 0 rfl) ?_
  refine m_get (v := .ref (h 8)) X hw_clearGame hM 8 (by decide) fl_clearGame_8 rfl dX12_clearGame_31 ?_
  refine lv_sipush (v := (301 : Int32)) hx hb dX12_clearGame_34 (by decide) ?_
  refine lv_iload_n hx hb dX12_clearGame_37 rfl (lv_at hl 1 rfl) ?_
  refine lv_imul hx hb dX12_clearGame_38 ?_
  obtain ⟨v6, ev, hf⟩ := m_bndE hf
  refine m_top ev ?_
  clear ev
  refine lv_iconst (v := (-1 : Int32)) hx hb dX12_clearGame_39 (by decide) ?_
  obtain ⟨cd, hf⟩ := m_chkE hf
  refine m_iast X hM 8 4 602 rfl ma_8 cd dX12_clearGame_40 (fun H locs hM => ?_)
  clear cd
  obtain ⟨A7, ev, hf⟩ := m_bndE hf
  replace hM := m_hA hM ev
  clear ev
  refine lv_aload_n hx hb dX12_clearGame_41 rfl (lv_at hl 0 rfl) ?_
  refine m_get (v := .ref (h 9)) X hw_clearGame hM 9 (by decide) fl_clearGame_9 rfl dX12_clearGame_42 ?_
  refine lv_sipush (v := (301 : Int32)) hx hb dX12_clearGame_45 (by decide) ?_
  refine lv_iload_n hx hb dX12_clearGame_48 rfl (lv_at hl 1 rfl) ?_
  refine lv_imul hx hb dX12_clearGame_49 ?_
  obtain ⟨v8, ev, hf⟩ := m_bndE hf
  refine m_top ev ?_
  clear ev
  refine lv_iconst (v := (-1 : Int32)) hx hb dX12_clearGame_50 (by decide) ?_
  obtain ⟨cd, hf⟩ := m_chkE hf
  refine m_iast X hM 9 5 602 rfl ma_9 cd dX12_clearGame_51 (fun H locs hM => ?_)
  clear cd
  obtain ⟨A9, ev, hf⟩ := m_bndE hf
  replace hM := m_hA hM ev
  clear ev
  cases hf
  exact hret H locs _ ls hM dX12_clearGame_52
def f_clearGame (x1 : Int32) (I : Nat → Int32) (A : Nat → Nat → Int32) : Option (Int32 × MS) := f_clearGame_0 x1 I A
theorem c_clearGame {l : Launch} {D : va_G} {cy ci : ClassId} {h : Nat → Nat} {x1 : Int32} {I : Nat → Int32} {A : Nat → Nat → Int32} {o : Int32 × MS} (hf : f_clearGame x1 I A = some o) : mMv l yX12_clearGame wsX12_clearGame ({ frames := 1, cells := 0, slots := 0, locals := 21 } : Room) [.ref (h 0), .int x1] D cy ci h I A o :=
  m_entryV (cc := cX12_clearGame) (maxL := 2) (by decide) rfl rfl (Nat.le_of_ble_eq_true rfl) (fun p e s m args below meth c A0 Q H locs ls X hret hM hl => w_clearGame_0 X hret hf hM (lv_sub hl [0, 1] rfl))
theorem hw_start : ∀ w ∈ wsX120, w ∈ wsX12_start := by decide +kernel
theorem fl_start_16 : Cond.fieldLink RX12 46 "MoveTextsModel" "startMen" "[I" ∈ wsX12_start := by decide +kernel
theorem fl_start_17 : Cond.fieldLink RX12 49 "MoveTextsModel" "startRest" "[I" ∈ wsX12_start := by decide +kernel
theorem fl_start_24 : Cond.fieldLink RX12 70 "MoveTextsModel" "men" "[I" ∈ wsX12_start := by decide +kernel
theorem fl_start_25 : Cond.fieldLink RX12 121 "MoveTextsModel" "side" "I" ∈ wsX12_start := by decide +kernel
theorem fl_start_26 : Cond.fieldLink RX12 124 "MoveTextsModel" "rights" "I" ∈ wsX12_start := by decide +kernel
theorem fl_start_27 : Cond.fieldLink RX12 127 "MoveTextsModel" "passed" "I" ∈ wsX12_start := by decide +kernel
theorem fl_start_28 : Cond.fieldLink RX12 130 "MoveTextsModel" "clock" "I" ∈ wsX12_start := by decide +kernel
theorem fl_start_29 : Cond.fieldLink RX12 133 "MoveTextsModel" "number" "I" ∈ wsX12_start := by decide +kernel
theorem hd_start : yX12_start.cls = RX12 ∧ yX12_start.cls ≠ "java/lang/invoke/MethodHandle" ∧ yX12_start.cls ≠ "java/lang/invoke/VarHandle" ∧ (parseMethodDescriptor yX12_start.desc).map (fun d => d.parameters.length) = some 1 := by decide +kernel
def f_start_2s (self2 : Int32 → Int32 → (Nat → Int32) → (Nat → Nat → Int32) → Option (Int32 × MS)) (x1 : Int32) (x2 : Int32) (I : Nat → Int32) (A : Nat → Nat → Int32) : Option (Int32 × MS) :=
  m_if ((64 : Int32) ≤ x2) (
  m_bnd ((5 : Int32) * x1) (fun v1 =>
  m_chk (¬ (v1 < 0 ∨ 10 ≤ (v1).toNatClampNeg)) (
  m_bnd (va_up A 17 (upd (A 17) (v1).toNatClampNeg (I 25))) (fun A2 =>
  m_bnd ((5 : Int32) * x1) (fun v3 =>
  m_bnd (v3 + (1 : Int32)) (fun v4 =>
  m_chk (¬ (v4 < 0 ∨ 10 ≤ (v4).toNatClampNeg)) (
  m_bnd (va_up A2 17 (upd (A2 17) (v4).toNatClampNeg (I 26))) (fun A5 =>
  m_bnd ((5 : Int32) * x1) (fun v6 =>
  m_bnd (v6 + (2 : Int32)) (fun v7 =>
  m_chk (¬ (v7 < 0 ∨ 10 ≤ (v7).toNatClampNeg)) (
  m_bnd (va_up A5 17 (upd (A5 17) (v7).toNatClampNeg (I 27))) (fun A8 =>
  m_bnd ((5 : Int32) * x1) (fun v9 =>
  m_bnd (v9 + (3 : Int32)) (fun v10 =>
  m_chk (¬ (v10 < 0 ∨ 10 ≤ (v10).toNatClampNeg)) (
  m_bnd (va_up A8 17 (upd (A8 17) (v10).toNatClampNeg (I 28))) (fun A11 =>
  m_bnd ((5 : Int32) * x1) (fun v12 =>
  m_bnd (v12 + (4 : Int32)) (fun v13 =>
  m_chk (¬ (v13 < 0 ∨ 10 ≤ (v13).toNatClampNeg)) (
  m_bnd (va_up A11 17 (upd (A11 17) (v13).toNatClampNeg (I 29))) (fun A14 =>
  some (0, (I, A14)))))))))))))))))))))
  ) (
  m_bnd ((64 : Int32) * x1) (fun v15 =>
  m_bnd (v15 + x2) (fun v16 =>
  m_chk (¬ (x2 < 0 ∨ 64 ≤ (x2).toNatClampNeg)) (
  m_bnd (A 24 (x2).toNatClampNeg) (fun v17 =>
  m_chk (¬ (v16 < 0 ∨ 128 ≤ (v16).toNatClampNeg)) (
  m_bnd (va_up A 16 (upd (A 16) (v16).toNatClampNeg v17)) (fun A18 =>
  m_bnd (x2 + (1 : Int32)) (fun v19 =>
  self2 x1 v19 I A18)))))))
  )

set_option maxRecDepth 100000 in
set_option maxHeartbeats 4000000 in
theorem ws_start_2 {p : Program} {l : Launch} {e : Env} {s : State} {m : MethodId} {args : Array Value} {below : List Frame} {meth : Method} {c : Code} {Q : State → Prop} {D : va_G} {cy ci : ClassId} {h : Nat → Nat} {A0 : Nat → Prop} {o : Int32 × MS} (X : CallFix p m c cX12_start 3 s args wsX12_start RX12) (hret : mRv p l e ({ frames := 0, cells := 0, slots := 0, locals := 0 } : Room) s m args below meth c Q cX12_start D cy ci h A0 o) {self2 : Int32 → Int32 → (Nat → Int32) → (Nat → Nat → Int32) → Option (Int32 × MS)} (hself2 : ∀ (x1 : Int32) (x2 : Int32) (I : Nat → Int32) (A : Nat → Nat → Int32) (H : Heap) (locs : List Loc) (ls : Array Slot), self2 x1 x2 I A = some o → mH D cy ci h A0 s H locs I A → lv_has ls 3 [(0, .ref (h 0)), (1, .int x1), (2, .int x2)] → W p l e ({ frames := 0, cells := 0, slots := 0, locals := 0 } : Room) s m args below meth c H locs 0 0 Q (F0 m 2 ls [])) {x1 : Int32} {x2 : Int32} {I : Nat → Int32} {A : Nat → Nat → Int32} {H : Heap} {locs : List Loc} {ls : Array Slot} (hf : f_start_2s self2 x1 x2 I A = some o) (hM : mH D cy ci h A0 s H locs I A) (hl : lv_has ls 3 [(0, .ref (h 0)), (1, .int x1), (2, .int x2)]) : W p l e ({ frames := 0, cells := 0, slots := 0, locals := 0 } : Room) s m args below meth c H locs 0 0 Q (F0 m 2 ls []) := by
  obtain ⟨hx, hb, hml, hown, hts⟩ := id X
  unfold f_start_2s at hf
  refine lv_iload_n hx hb dX12_start_2 rfl (lv_at hl 2 rfl) ?_
  refine lv_bipush (v := (64 : Int32)) hx hb dX12_start_3 (by decide) ?_
  refine lv_icmp_ge (tgt := 31) hx hb dX12_start_5 (by decide) (fun cc1 => ?_) (fun cc1 => ?_)
  · replace hf := m_ifT hf cc1
    refine lv_aload_n hx hb dX12_start_31 rfl (lv_at hl 0 rfl) ?_
    refine m_get (v := .ref (h 17)) X hw_start hM 17 (by decide) fl_start_17 rfl dX12_start_32 ?_
    refine lv_iconst (v := (5 : Int32)) hx hb dX12_start_35 (by decide) ?_
    refine lv_iload_n hx hb dX12_start_36 rfl (lv_at hl 1 rfl) ?_
    refine lv_imul hx hb dX12_start_37 ?_
    obtain ⟨v1, ev, hf⟩ := m_bndE hf
    refine m_top ev ?_
    clear ev
    refine lv_aload_n hx hb dX12_start_38 rfl (lv_at hl 0 rfl) ?_
    refine m_get (v := .int (I 25)) X hw_start hM 25 (by decide) fl_start_25 rfl dX12_start_39 ?_
    obtain ⟨cd, hf⟩ := m_chkE hf
    refine m_iast X hM 17 13 10 rfl ma_17 cd dX12_start_42 (fun H locs hM => ?_)
    clear cd
    obtain ⟨A2, ev, hf⟩ := m_bndE hf
    replace hM := m_hA hM ev
    clear ev
    refine lv_aload_n hx hb dX12_start_43 rfl (lv_at hl 0 rfl) ?_
    refine m_get (v := .ref (h 17)) X hw_start hM 17 (by decide) fl_start_17 rfl dX12_start_44 ?_
    refine lv_iconst (v := (5 : Int32)) hx hb dX12_start_47 (by decide) ?_
    refine lv_iload_n hx hb dX12_start_48 rfl (lv_at hl 1 rfl) ?_
    refine lv_imul hx hb dX12_start_49 ?_
    obtain ⟨v3, ev, hf⟩ := m_bndE hf
    refine m_top ev ?_
    clear ev
    refine lv_iconst (v := (1 : Int32)) hx hb dX12_start_50 (by decide) ?_
    refine lv_iadd hx hb dX12_start_51 ?_
    obtain ⟨v4, ev, hf⟩ := m_bndE hf
    refine m_top ev ?_
    clear ev
    refine lv_aload_n hx hb dX12_start_52 rfl (lv_at hl 0 rfl) ?_
    refine m_get (v := .int (I 26)) X hw_start hM 26 (by decide) fl_start_26 rfl dX12_start_53 ?_
    obtain ⟨cd, hf⟩ := m_chkE hf
    refine m_iast X hM 17 13 10 rfl ma_17 cd dX12_start_56 (fun H locs hM => ?_)
    clear cd
    obtain ⟨A5, ev, hf⟩ := m_bndE hf
    replace hM := m_hA hM ev
    clear ev
    refine lv_aload_n hx hb dX12_start_57 rfl (lv_at hl 0 rfl) ?_
    refine m_get (v := .ref (h 17)) X hw_start hM 17 (by decide) fl_start_17 rfl dX12_start_58 ?_
    refine lv_iconst (v := (5 : Int32)) hx hb dX12_start_61 (by decide) ?_
    refine lv_iload_n hx hb dX12_start_62 rfl (lv_at hl 1 rfl) ?_
    refine lv_imul hx hb dX12_start_63 ?_
    obtain ⟨v6, ev, hf⟩ := m_bndE hf
    refine m_top ev ?_
    clear ev
    refine lv_iconst (v := (2 : Int32)) hx hb dX12_start_64 (by decide) ?_
    refine lv_iadd hx hb dX12_start_65 ?_
    obtain ⟨v7, ev, hf⟩ := m_bndE hf
    refine m_top ev ?_
    clear ev
    refine lv_aload_n hx hb dX12_start_66 rfl (lv_at hl 0 rfl) ?_
    refine m_get (v := .int (I 27)) X hw_start hM 27 (by decide) fl_start_27 rfl dX12_start_67 ?_
    obtain ⟨cd, hf⟩ := m_chkE hf
    refine m_iast X hM 17 13 10 rfl ma_17 cd dX12_start_70 (fun H locs hM => ?_)
    clear cd
    obtain ⟨A8, ev, hf⟩ := m_bndE hf
    replace hM := m_hA hM ev
    clear ev
    refine lv_aload_n hx hb dX12_start_71 rfl (lv_at hl 0 rfl) ?_
    refine m_get (v := .ref (h 17)) X hw_start hM 17 (by decide) fl_start_17 rfl dX12_start_72 ?_
    refine lv_iconst (v := (5 : Int32)) hx hb dX12_start_75 (by decide) ?_
    refine lv_iload_n hx hb dX12_start_76 rfl (lv_at hl 1 rfl) ?_
    refine lv_imul hx hb dX12_start_77 ?_
    obtain ⟨v9, ev, hf⟩ := m_bndE hf
    refine m_top ev ?_
    clear ev
    refine lv_iconst (v := (3 : Int32)) hx hb dX12_start_78 (by decide) ?_
    refine lv_iadd hx hb dX12_start_79 ?_
    obtain ⟨v10, ev, hf⟩ := m_bndE hf
    refine m_top ev ?_
    clear ev
    refine lv_aload_n hx hb dX12_start_80 rfl (lv_at hl 0 rfl) ?_
    refine m_get (v := .int (I 28)) X hw_start hM 28 (by decide) fl_start_28 rfl dX12_start_81 ?_
    obtain ⟨cd, hf⟩ := m_chkE hf
    refine m_iast X hM 17 13 10 rfl ma_17 cd dX12_start_84 (fun H locs hM => ?_)
    clear cd
    obtain ⟨A11, ev, hf⟩ := m_bndE hf
    replace hM := m_hA hM ev
    clear ev
    refine lv_aload_n hx hb dX12_start_85 rfl (lv_at hl 0 rfl) ?_
    refine m_get (v := .ref (h 17)) X hw_start hM 17 (by decide) fl_start_17 rfl dX12_start_86 ?_
    refine lv_iconst (v := (5 : Int32)) hx hb dX12_start_89 (by decide) ?_
    refine lv_iload_n hx hb dX12_start_90 rfl (lv_at hl 1 rfl) ?_
    refine lv_imul hx hb dX12_start_91 ?_
    obtain ⟨v12, ev, hf⟩ := m_bndE hf
    refine m_top ev ?_
    clear ev
    refine lv_iconst (v := (4 : Int32)) hx hb dX12_start_92 (by decide) ?_
    refine lv_iadd hx hb dX12_start_93 ?_
    obtain ⟨v13, ev, hf⟩ := m_bndE hf
    refine m_top ev ?_
    clear ev
    refine lv_aload_n hx hb dX12_start_94 rfl (lv_at hl 0 rfl) ?_
    refine m_get (v := .int (I 29)) X hw_start hM 29 (by decide) fl_start_29 rfl dX12_start_95 ?_
    obtain ⟨cd, hf⟩ := m_chkE hf
    refine m_iast X hM 17 13 10 rfl ma_17 cd dX12_start_98 (fun H locs hM => ?_)
    clear cd
    obtain ⟨A14, ev, hf⟩ := m_bndE hf
    replace hM := m_hA hM ev
    clear ev
    cases hf
    exact hret H locs _ ls hM dX12_start_99
  · replace hf := m_ifF hf cc1
    refine lv_aload_n hx hb dX12_start_8 rfl (lv_at hl 0 rfl) ?_
    refine m_get (v := .ref (h 16)) X hw_start hM 16 (by decide) fl_start_16 rfl dX12_start_9 ?_
    refine lv_bipush (v := (64 : Int32)) hx hb dX12_start_12 (by decide) ?_
    refine lv_iload_n hx hb dX12_start_14 rfl (lv_at hl 1 rfl) ?_
    refine lv_imul hx hb dX12_start_15 ?_
    obtain ⟨v15, ev, hf⟩ := m_bndE hf
    refine m_top ev ?_
    clear ev
    refine lv_iload_n hx hb dX12_start_16 rfl (lv_at hl 2 rfl) ?_
    refine lv_iadd hx hb dX12_start_17 ?_
    obtain ⟨v16, ev, hf⟩ := m_bndE hf
    refine m_top ev ?_
    clear ev
    refine lv_aload_n hx hb dX12_start_18 rfl (lv_at hl 0 rfl) ?_
    refine m_get (v := .ref (h 24)) X hw_start hM 24 (by decide) fl_start_24 rfl dX12_start_19 ?_
    refine lv_iload_n hx hb dX12_start_22 rfl (lv_at hl 2 rfl) ?_
    obtain ⟨cd, hf⟩ := m_chkE hf
    refine m_iald X hM 24 20 64 rfl cd dX12_start_23 ?_
    clear cd
    obtain ⟨v17, ev, hf⟩ := m_bndE hf
    refine m_top ev ?_
    clear ev
    obtain ⟨cd, hf⟩ := m_chkE hf
    refine m_iast X hM 16 12 128 rfl ma_16 cd dX12_start_24 (fun H locs hM => ?_)
    clear cd
    obtain ⟨A18, ev, hf⟩ := m_bndE hf
    replace hM := m_hA hM ev
    clear ev
    obtain ⟨v19, ev, hf⟩ := m_bndE hf
    refine lv_iinc (v := v19) (lv' := [(2, .int v19), (0, .ref (h 0)), (1, .int x1)]) hx hb dX12_start_25 hl (k := 2) rfl (by rw [ev]; rfl) (by decide) rfl (fun ls hl => ?_)
    clear ev
    refine lv_goto (tgt := 2) hx hb dX12_start_28 (by decide) ?_
    exact hself2 _ _ _ _ _ _ _ hf hM (lv_sub hl [1, 2, 0] rfl)
def f_start_2 : Nat → Int32 → Int32 → (Nat → Int32) → (Nat → Nat → Int32) → Option (Int32 × MS)
  | 0 => fun _ _ _ _ => none
  | n + 1 => f_start_2s (f_start_2 n)
theorem w_start_2 {p : Program} {l : Launch} {e : Env} {s : State} {m : MethodId} {args : Array Value} {below : List Frame} {meth : Method} {c : Code} {Q : State → Prop} {D : va_G} {cy ci : ClassId} {h : Nat → Nat} {A0 : Nat → Prop} {o : Int32 × MS} (X : CallFix p m c cX12_start 3 s args wsX12_start RX12) (hret : mRv p l e ({ frames := 0, cells := 0, slots := 0, locals := 0 } : Room) s m args below meth c Q cX12_start D cy ci h A0 o) (n : Nat) : ∀ (x1 : Int32) (x2 : Int32) (I : Nat → Int32) (A : Nat → Nat → Int32) (H : Heap) (locs : List Loc) (ls : Array Slot), f_start_2 n x1 x2 I A = some o → mH D cy ci h A0 s H locs I A → lv_has ls 3 [(0, .ref (h 0)), (1, .int x1), (2, .int x2)] → W p l e ({ frames := 0, cells := 0, slots := 0, locals := 0 } : Room) s m args below meth c H locs 0 0 Q (F0 m 2 ls []) := by
  induction n with
  | zero => intro x1 x2 I A H locs ls hf; cases hf
  | succ n ih => intro x1 x2 I A H locs ls hf hM hl; exact ws_start_2 X hret (self2 := f_start_2 n) ih hf hM hl
def f_start_0 (x1 : Int32) (I : Nat → Int32) (A : Nat → Nat → Int32) : Option (Int32 × MS) :=
  f_start_2 mFuel x1 (0 : Int32) I A

set_option maxRecDepth 100000 in
set_option maxHeartbeats 4000000 in
theorem w_start_0 {p : Program} {l : Launch} {e : Env} {s : State} {m : MethodId} {args : Array Value} {below : List Frame} {meth : Method} {c : Code} {Q : State → Prop} {D : va_G} {cy ci : ClassId} {h : Nat → Nat} {A0 : Nat → Prop} {o : Int32 × MS} (X : CallFix p m c cX12_start 3 s args wsX12_start RX12) (hret : mRv p l e ({ frames := 0, cells := 0, slots := 0, locals := 0 } : Room) s m args below meth c Q cX12_start D cy ci h A0 o) {x1 : Int32} {I : Nat → Int32} {A : Nat → Nat → Int32} {H : Heap} {locs : List Loc} {ls : Array Slot} (hf : f_start_0 x1 I A = some o) (hM : mH D cy ci h A0 s H locs I A) (hl : lv_has ls 3 [(0, .ref (h 0)), (1, .int x1)]) : W p l e ({ frames := 0, cells := 0, slots := 0, locals := 0 } : Room) s m args below meth c H locs 0 0 Q (F0 m 0 ls []) := by
  obtain ⟨hx, hb, hml, hown, hts⟩ := id X
  unfold f_start_0 at hf
  refine lv_iconst (v := (0 : Int32)) hx hb dX12_start_0 (by decide) ?_
  refine lv_istore_n (lv' := [(2, .int (0 : Int32)), (0, .ref (h 0)), (1, .int x1)]) hx hb dX12_start_1 rfl hl (by decide) rfl (fun ls hl => ?_)
  exact w_start_2 X hret _ _ _ _ _ _ _ _ hf hM (lv_sub hl [1, 2, 0] rfl)
def f_start (x1 : Int32) (I : Nat → Int32) (A : Nat → Nat → Int32) : Option (Int32 × MS) := f_start_0 x1 I A
theorem c_start {l : Launch} {D : va_G} {cy ci : ClassId} {h : Nat → Nat} {x1 : Int32} {I : Nat → Int32} {A : Nat → Nat → Int32} {o : Int32 × MS} (hf : f_start x1 I A = some o) : mMv l yX12_start wsX12_start ({ frames := 0, cells := 0, slots := 0, locals := 0 } : Room) [.ref (h 0), .int x1] D cy ci h I A o :=
  m_entryV (cc := cX12_start) (maxL := 3) (by decide) rfl rfl (Nat.le_of_ble_eq_true rfl) (fun p e s m args below meth c A0 Q H locs ls X hret hM hl => w_start_0 X hret hf hM (lv_sub hl [0, 1] rfl))
theorem hw_usual : ∀ w ∈ wsX120, w ∈ wsX12_usual := by decide +kernel
theorem fl_usual_24 : Cond.fieldLink RX12 70 "MoveTextsModel" "men" "[I" ∈ wsX12_usual := by decide +kernel
theorem fl_usual_25 : Cond.fieldLink RX12 121 "MoveTextsModel" "side" "I" ∈ wsX12_usual := by decide +kernel
theorem fl_usual_26 : Cond.fieldLink RX12 124 "MoveTextsModel" "rights" "I" ∈ wsX12_usual := by decide +kernel
theorem fl_usual_27 : Cond.fieldLink RX12 127 "MoveTextsModel" "passed" "I" ∈ wsX12_usual := by decide +kernel
theorem fl_usual_28 : Cond.fieldLink RX12 130 "MoveTextsModel" "clock" "I" ∈ wsX12_usual := by decide +kernel
theorem fl_usual_29 : Cond.fieldLink RX12 133 "MoveTextsModel" "number" "I" ∈ wsX12_usual := by decide +kernel
theorem hd_usual : yX12_usual.cls = RX12 ∧ yX12_usual.cls ≠ "java/lang/invoke/MethodHandle" ∧ yX12_usual.cls ≠ "java/lang/invoke/VarHandle" ∧ (parseMethodDescriptor yX12_usual.desc).map (fun d => d.parameters.length) = some 1 := by decide +kernel
def f_usual_83 (self23 : Int32 → Int32 → (Nat → Int32) → (Nat → Nat → Int32) → Option (Int32 × MS)) (x1 : Int32) (x2 : Int32) (t0 : Int32) (I : Nat → Int32) (A : Nat → Nat → Int32) : Option (Int32 × MS) :=
  m_chk (¬ (x2 < 0 ∨ 64 ≤ (x2).toNatClampNeg)) (
  m_bnd (va_up A 24 (upd (A 24) (x2).toNatClampNeg t0)) (fun A1 =>
  m_bnd ((8 : Int32) + x2) (fun v2 =>
  m_chk (¬ (v2 < 0 ∨ 64 ≤ (v2).toNatClampNeg)) (
  m_bnd (va_up A1 24 (upd (A1 24) (v2).toNatClampNeg (1 : Int32))) (fun A3 =>
  m_bnd ((48 : Int32) + x2) (fun v4 =>
  m_chk (¬ (v4 < 0 ∨ 64 ≤ (v4).toNatClampNeg)) (
  m_bnd (va_up A3 24 (upd (A3 24) (v4).toNatClampNeg (9 : Int32))) (fun A5 =>
  m_bnd ((56 : Int32) + x2) (fun v6 =>
  m_bnd (t0 + (8 : Int32)) (fun v7 =>
  m_chk (¬ (v6 < 0 ∨ 64 ≤ (v6).toNatClampNeg)) (
  m_bnd (va_up A5 24 (upd (A5 24) (v6).toNatClampNeg v7)) (fun A8 =>
  m_bnd (x2 + (1 : Int32)) (fun v9 =>
  self23 x1 v9 I A8)))))))))))))

set_option maxRecDepth 100000 in
set_option maxHeartbeats 4000000 in
theorem w_usual_83 {p : Program} {l : Launch} {e : Env} {s : State} {m : MethodId} {args : Array Value} {below : List Frame} {meth : Method} {c : Code} {Q : State → Prop} {D : va_G} {cy ci : ClassId} {h : Nat → Nat} {A0 : Nat → Prop} {o : Int32 × MS} (X : CallFix p m c cX12_usual 4 s args wsX12_usual RX12) (hret : mRv p l e ({ frames := 1, cells := 0, slots := 0, locals := 22 } : Room) s m args below meth c Q cX12_usual D cy ci h A0 o) {self23 : Int32 → Int32 → (Nat → Int32) → (Nat → Nat → Int32) → Option (Int32 × MS)} (hself23 : ∀ (x1 : Int32) (x2 : Int32) (I : Nat → Int32) (A : Nat → Nat → Int32) (H : Heap) (locs : List Loc) (ls : Array Slot), self23 x1 x2 I A = some o → mH D cy ci h A0 s H locs I A → lv_has ls 4 [(0, .ref (h 0)), (1, .int x1), (2, .int x2)] → W p l e ({ frames := 1, cells := 0, slots := 0, locals := 22 } : Room) s m args below meth c H locs 0 0 Q (F0 m 23 ls [])) {x1 : Int32} {x2 : Int32} {t0 : Int32} {I : Nat → Int32} {A : Nat → Nat → Int32} {H : Heap} {locs : List Loc} {ls : Array Slot} (hf : f_usual_83 self23 x1 x2 t0 I A = some o) (hM : mH D cy ci h A0 s H locs I A) (hl : lv_has ls 4 [(0, .ref (h 0)), (1, .int x1), (2, .int x2)]) : W p l e ({ frames := 1, cells := 0, slots := 0, locals := 22 } : Room) s m args below meth c H locs 0 0 Q (F0 m 83 ls [.int t0]) := by
  obtain ⟨hx, hb, hml, hown, hts⟩ := id X
  unfold f_usual_83 at hf
  refine lv_istore_n (lv' := [(3, .int t0), (0, .ref (h 0)), (1, .int x1), (2, .int x2)]) hx hb dX12_usual_83 rfl hl (by decide) rfl (fun ls hl => ?_)
  refine lv_aload_n hx hb dX12_usual_84 rfl (lv_at hl 1 rfl) ?_
  refine m_get (v := .ref (h 24)) X hw_usual hM 24 (by decide) fl_usual_24 rfl dX12_usual_85 ?_
  refine lv_iload_n hx hb dX12_usual_88 rfl (lv_at hl 3 rfl) ?_
  refine lv_iload_n hx hb dX12_usual_89 rfl (lv_at hl 0 rfl) ?_
  obtain ⟨cd, hf⟩ := m_chkE hf
  refine m_iast X hM 24 20 64 rfl ma_24 cd dX12_usual_90 (fun H locs hM => ?_)
  clear cd
  obtain ⟨A1, ev, hf⟩ := m_bndE hf
  replace hM := m_hA hM ev
  clear ev
  refine lv_aload_n hx hb dX12_usual_91 rfl (lv_at hl 1 rfl) ?_
  refine m_get (v := .ref (h 24)) X hw_usual hM 24 (by decide) fl_usual_24 rfl dX12_usual_92 ?_
  refine lv_bipush (v := (8 : Int32)) hx hb dX12_usual_95 (by decide) ?_
  refine lv_iload_n hx hb dX12_usual_97 rfl (lv_at hl 3 rfl) ?_
  refine lv_iadd hx hb dX12_usual_98 ?_
  obtain ⟨v2, ev, hf⟩ := m_bndE hf
  refine m_top ev ?_
  clear ev
  refine lv_iconst (v := (1 : Int32)) hx hb dX12_usual_99 (by decide) ?_
  obtain ⟨cd, hf⟩ := m_chkE hf
  refine m_iast X hM 24 20 64 rfl ma_24 cd dX12_usual_100 (fun H locs hM => ?_)
  clear cd
  obtain ⟨A3, ev, hf⟩ := m_bndE hf
  replace hM := m_hA hM ev
  clear ev
  refine lv_aload_n hx hb dX12_usual_101 rfl (lv_at hl 1 rfl) ?_
  refine m_get (v := .ref (h 24)) X hw_usual hM 24 (by decide) fl_usual_24 rfl dX12_usual_102 ?_
  refine lv_bipush (v := (48 : Int32)) hx hb dX12_usual_105 (by decide) ?_
  refine lv_iload_n hx hb dX12_usual_107 rfl (lv_at hl 3 rfl) ?_
  refine lv_iadd hx hb dX12_usual_108 ?_
  obtain ⟨v4, ev, hf⟩ := m_bndE hf
  refine m_top ev ?_
  clear ev
  refine lv_bipush (v := (9 : Int32)) hx hb dX12_usual_109 (by decide) ?_
  obtain ⟨cd, hf⟩ := m_chkE hf
  refine m_iast X hM 24 20 64 rfl ma_24 cd dX12_usual_111 (fun H locs hM => ?_)
  clear cd
  obtain ⟨A5, ev, hf⟩ := m_bndE hf
  replace hM := m_hA hM ev
  clear ev
  refine lv_aload_n hx hb dX12_usual_112 rfl (lv_at hl 1 rfl) ?_
  refine m_get (v := .ref (h 24)) X hw_usual hM 24 (by decide) fl_usual_24 rfl dX12_usual_113 ?_
  refine lv_bipush (v := (56 : Int32)) hx hb dX12_usual_116 (by decide) ?_
  refine lv_iload_n hx hb dX12_usual_118 rfl (lv_at hl 3 rfl) ?_
  refine lv_iadd hx hb dX12_usual_119 ?_
  obtain ⟨v6, ev, hf⟩ := m_bndE hf
  refine m_top ev ?_
  clear ev
  refine lv_iload_n hx hb dX12_usual_120 rfl (lv_at hl 0 rfl) ?_
  refine lv_bipush (v := (8 : Int32)) hx hb dX12_usual_121 (by decide) ?_
  refine lv_iadd hx hb dX12_usual_123 ?_
  obtain ⟨v7, ev, hf⟩ := m_bndE hf
  refine m_top ev ?_
  clear ev
  obtain ⟨cd, hf⟩ := m_chkE hf
  refine m_iast X hM 24 20 64 rfl ma_24 cd dX12_usual_124 (fun H locs hM => ?_)
  clear cd
  obtain ⟨A8, ev, hf⟩ := m_bndE hf
  replace hM := m_hA hM ev
  clear ev
  obtain ⟨v9, ev, hf⟩ := m_bndE hf
  refine lv_iinc (v := v9) (lv' := [(2, .int v9), (3, .int t0), (0, .ref (h 0)), (1, .int x1)]) hx hb dX12_usual_125 hl (k := 3) rfl (by rw [ev]; rfl) (by decide) rfl (fun ls hl => ?_)
  clear ev
  refine lv_goto (tgt := 23) hx hb dX12_usual_128 (by decide) ?_
  exact hself23 _ _ _ _ _ _ _ hf hM (lv_sub hl [2, 3, 0] rfl)
def f_usual_39 (self23 : Int32 → Int32 → (Nat → Int32) → (Nat → Nat → Int32) → Option (Int32 × MS)) (x1 : Int32) (x2 : Int32) (I : Nat → Int32) (A : Nat → Nat → Int32) : Option (Int32 × MS) :=
  f_usual_83 self23 x1 x2 (4 : Int32) I A

set_option maxRecDepth 100000 in
set_option maxHeartbeats 4000000 in
theorem w_usual_39 {p : Program} {l : Launch} {e : Env} {s : State} {m : MethodId} {args : Array Value} {below : List Frame} {meth : Method} {c : Code} {Q : State → Prop} {D : va_G} {cy ci : ClassId} {h : Nat → Nat} {A0 : Nat → Prop} {o : Int32 × MS} (X : CallFix p m c cX12_usual 4 s args wsX12_usual RX12) (hret : mRv p l e ({ frames := 1, cells := 0, slots := 0, locals := 22 } : Room) s m args below meth c Q cX12_usual D cy ci h A0 o) {self23 : Int32 → Int32 → (Nat → Int32) → (Nat → Nat → Int32) → Option (Int32 × MS)} (hself23 : ∀ (x1 : Int32) (x2 : Int32) (I : Nat → Int32) (A : Nat → Nat → Int32) (H : Heap) (locs : List Loc) (ls : Array Slot), self23 x1 x2 I A = some o → mH D cy ci h A0 s H locs I A → lv_has ls 4 [(0, .ref (h 0)), (1, .int x1), (2, .int x2)] → W p l e ({ frames := 1, cells := 0, slots := 0, locals := 22 } : Room) s m args below meth c H locs 0 0 Q (F0 m 23 ls [])) {x1 : Int32} {x2 : Int32} {I : Nat → Int32} {A : Nat → Nat → Int32} {H : Heap} {locs : List Loc} {ls : Array Slot} (hf : f_usual_39 self23 x1 x2 I A = some o) (hM : mH D cy ci h A0 s H locs I A) (hl : lv_has ls 4 [(0, .ref (h 0)), (1, .int x1), (2, .int x2)]) : W p l e ({ frames := 1, cells := 0, slots := 0, locals := 22 } : Room) s m args below meth c H locs 0 0 Q (F0 m 39 ls []) := by
  obtain ⟨hx, hb, hml, hown, hts⟩ := id X
  unfold f_usual_39 at hf
  refine lv_iconst (v := (4 : Int32)) hx hb dX12_usual_39 (by decide) ?_
  refine lv_goto (tgt := 83) hx hb dX12_usual_40 (by decide) ?_
  exact w_usual_83 X hret hself23 hf hM (lv_sub hl [0, 1, 2] rfl)
def f_usual_54 (self23 : Int32 → Int32 → (Nat → Int32) → (Nat → Nat → Int32) → Option (Int32 × MS)) (x1 : Int32) (x2 : Int32) (I : Nat → Int32) (A : Nat → Nat → Int32) : Option (Int32 × MS) :=
  f_usual_83 self23 x1 x2 (2 : Int32) I A

set_option maxRecDepth 100000 in
set_option maxHeartbeats 4000000 in
theorem w_usual_54 {p : Program} {l : Launch} {e : Env} {s : State} {m : MethodId} {args : Array Value} {below : List Frame} {meth : Method} {c : Code} {Q : State → Prop} {D : va_G} {cy ci : ClassId} {h : Nat → Nat} {A0 : Nat → Prop} {o : Int32 × MS} (X : CallFix p m c cX12_usual 4 s args wsX12_usual RX12) (hret : mRv p l e ({ frames := 1, cells := 0, slots := 0, locals := 22 } : Room) s m args below meth c Q cX12_usual D cy ci h A0 o) {self23 : Int32 → Int32 → (Nat → Int32) → (Nat → Nat → Int32) → Option (Int32 × MS)} (hself23 : ∀ (x1 : Int32) (x2 : Int32) (I : Nat → Int32) (A : Nat → Nat → Int32) (H : Heap) (locs : List Loc) (ls : Array Slot), self23 x1 x2 I A = some o → mH D cy ci h A0 s H locs I A → lv_has ls 4 [(0, .ref (h 0)), (1, .int x1), (2, .int x2)] → W p l e ({ frames := 1, cells := 0, slots := 0, locals := 22 } : Room) s m args below meth c H locs 0 0 Q (F0 m 23 ls [])) {x1 : Int32} {x2 : Int32} {I : Nat → Int32} {A : Nat → Nat → Int32} {H : Heap} {locs : List Loc} {ls : Array Slot} (hf : f_usual_54 self23 x1 x2 I A = some o) (hM : mH D cy ci h A0 s H locs I A) (hl : lv_has ls 4 [(0, .ref (h 0)), (1, .int x1), (2, .int x2)]) : W p l e ({ frames := 1, cells := 0, slots := 0, locals := 22 } : Room) s m args below meth c H locs 0 0 Q (F0 m 54 ls []) := by
  obtain ⟨hx, hb, hml, hown, hts⟩ := id X
  unfold f_usual_54 at hf
  refine lv_iconst (v := (2 : Int32)) hx hb dX12_usual_54 (by decide) ?_
  refine lv_goto (tgt := 83) hx hb dX12_usual_55 (by decide) ?_
  exact w_usual_83 X hret hself23 hf hM (lv_sub hl [0, 1, 2] rfl)
def f_usual_68 (self23 : Int32 → Int32 → (Nat → Int32) → (Nat → Nat → Int32) → Option (Int32 × MS)) (x1 : Int32) (x2 : Int32) (I : Nat → Int32) (A : Nat → Nat → Int32) : Option (Int32 × MS) :=
  f_usual_83 self23 x1 x2 (3 : Int32) I A

set_option maxRecDepth 100000 in
set_option maxHeartbeats 4000000 in
theorem w_usual_68 {p : Program} {l : Launch} {e : Env} {s : State} {m : MethodId} {args : Array Value} {below : List Frame} {meth : Method} {c : Code} {Q : State → Prop} {D : va_G} {cy ci : ClassId} {h : Nat → Nat} {A0 : Nat → Prop} {o : Int32 × MS} (X : CallFix p m c cX12_usual 4 s args wsX12_usual RX12) (hret : mRv p l e ({ frames := 1, cells := 0, slots := 0, locals := 22 } : Room) s m args below meth c Q cX12_usual D cy ci h A0 o) {self23 : Int32 → Int32 → (Nat → Int32) → (Nat → Nat → Int32) → Option (Int32 × MS)} (hself23 : ∀ (x1 : Int32) (x2 : Int32) (I : Nat → Int32) (A : Nat → Nat → Int32) (H : Heap) (locs : List Loc) (ls : Array Slot), self23 x1 x2 I A = some o → mH D cy ci h A0 s H locs I A → lv_has ls 4 [(0, .ref (h 0)), (1, .int x1), (2, .int x2)] → W p l e ({ frames := 1, cells := 0, slots := 0, locals := 22 } : Room) s m args below meth c H locs 0 0 Q (F0 m 23 ls [])) {x1 : Int32} {x2 : Int32} {I : Nat → Int32} {A : Nat → Nat → Int32} {H : Heap} {locs : List Loc} {ls : Array Slot} (hf : f_usual_68 self23 x1 x2 I A = some o) (hM : mH D cy ci h A0 s H locs I A) (hl : lv_has ls 4 [(0, .ref (h 0)), (1, .int x1), (2, .int x2)]) : W p l e ({ frames := 1, cells := 0, slots := 0, locals := 22 } : Room) s m args below meth c H locs 0 0 Q (F0 m 68 ls []) := by
  obtain ⟨hx, hb, hml, hown, hts⟩ := id X
  unfold f_usual_68 at hf
  refine lv_iconst (v := (3 : Int32)) hx hb dX12_usual_68 (by decide) ?_
  refine lv_goto (tgt := 83) hx hb dX12_usual_69 (by decide) ?_
  exact w_usual_83 X hret hself23 hf hM (lv_sub hl [0, 1, 2] rfl)
def f_usual_23s (self23 : Int32 → Int32 → (Nat → Int32) → (Nat → Nat → Int32) → Option (Int32 × MS)) (x1 : Int32) (x2 : Int32) (I : Nat → Int32) (A : Nat → Nat → Int32) : Option (Int32 × MS) :=
  m_if ((8 : Int32) ≤ x2) (
  m_bnd (upd I 25 (0 : Int32)) (fun I1 =>
  m_bnd (upd I1 26 (15 : Int32)) (fun I2 =>
  m_bnd (upd I2 27 (-1 : Int32)) (fun I3 =>
  m_bnd (upd I3 28 (0 : Int32)) (fun I4 =>
  m_bnd (upd I4 29 (1 : Int32)) (fun I5 =>
  m_cl (f_start x1 I5 A) (fun r6 Ic6 Ac6 =>
  some (0, (Ic6, Ac6))))))))
  ) (
  m_if (x2 = 0) (
  f_usual_39 self23 x1 x2 I A
  ) (
  m_if (x2 = (7 : Int32)) (
  f_usual_39 self23 x1 x2 I A
  ) (
  m_if (x2 = (1 : Int32)) (
  f_usual_54 self23 x1 x2 I A
  ) (
  m_if (x2 = (6 : Int32)) (
  f_usual_54 self23 x1 x2 I A
  ) (
  m_if (x2 = (2 : Int32)) (
  f_usual_68 self23 x1 x2 I A
  ) (
  m_if (x2 = (5 : Int32)) (
  f_usual_68 self23 x1 x2 I A
  ) (
  m_if (x2 = (3 : Int32)) (
  f_usual_83 self23 x1 x2 (5 : Int32) I A
  ) (
  f_usual_83 self23 x1 x2 (6 : Int32) I A
  )
  )
  )
  )
  )
  )
  )
  )

set_option maxRecDepth 100000 in
set_option maxHeartbeats 4000000 in
theorem ws_usual_23 {p : Program} {l : Launch} {e : Env} {s : State} {m : MethodId} {args : Array Value} {below : List Frame} {meth : Method} {c : Code} {Q : State → Prop} {D : va_G} {cy ci : ClassId} {h : Nat → Nat} {A0 : Nat → Prop} {o : Int32 × MS} (X : CallFix p m c cX12_usual 4 s args wsX12_usual RX12) (hret : mRv p l e ({ frames := 1, cells := 0, slots := 0, locals := 22 } : Room) s m args below meth c Q cX12_usual D cy ci h A0 o) {self23 : Int32 → Int32 → (Nat → Int32) → (Nat → Nat → Int32) → Option (Int32 × MS)} (hself23 : ∀ (x1 : Int32) (x2 : Int32) (I : Nat → Int32) (A : Nat → Nat → Int32) (H : Heap) (locs : List Loc) (ls : Array Slot), self23 x1 x2 I A = some o → mH D cy ci h A0 s H locs I A → lv_has ls 4 [(0, .ref (h 0)), (1, .int x1), (2, .int x2)] → W p l e ({ frames := 1, cells := 0, slots := 0, locals := 22 } : Room) s m args below meth c H locs 0 0 Q (F0 m 23 ls [])) {x1 : Int32} {x2 : Int32} {I : Nat → Int32} {A : Nat → Nat → Int32} {H : Heap} {locs : List Loc} {ls : Array Slot} (hf : f_usual_23s self23 x1 x2 I A = some o) (hM : mH D cy ci h A0 s H locs I A) (hl : lv_has ls 4 [(0, .ref (h 0)), (1, .int x1), (2, .int x2)]) : W p l e ({ frames := 1, cells := 0, slots := 0, locals := 22 } : Room) s m args below meth c H locs 0 0 Q (F0 m 23 ls []) := by
  obtain ⟨hx, hb, hml, hown, hts⟩ := id X
  unfold f_usual_23s at hf
  refine lv_iload_n hx hb dX12_usual_23 rfl (lv_at hl 2 rfl) ?_
  refine lv_bipush (v := (8 : Int32)) hx hb dX12_usual_24 (by decide) ?_
  refine lv_icmp_ge (tgt := 131) hx hb dX12_usual_26 (by decide) (fun cc1 => ?_) (fun cc1 => ?_)
  · replace hf := m_ifT hf cc1
    refine lv_aload_n hx hb dX12_usual_131 rfl (lv_at hl 0 rfl) ?_
    refine lv_iconst (v := (0 : Int32)) hx hb dX12_usual_132 (by decide) ?_
    refine m_put X hw_usual hM 25 (by decide) fl_usual_25 mi_25 rfl (tyX12_ok 25 (by decide)) dX12_usual_133 (fun H locs hM => ?_)
    obtain ⟨I1, ev, hf⟩ := m_bndE hf
    replace hM := m_hI hM ev
    clear ev
    refine lv_aload_n hx hb dX12_usual_136 rfl (lv_at hl 0 rfl) ?_
    refine lv_bipush (v := (15 : Int32)) hx hb dX12_usual_137 (by decide) ?_
    refine m_put X hw_usual hM 26 (by decide) fl_usual_26 mi_26 rfl (tyX12_ok 26 (by decide)) dX12_usual_139 (fun H locs hM => ?_)
    obtain ⟨I2, ev, hf⟩ := m_bndE hf
    replace hM := m_hI hM ev
    clear ev
    refine lv_aload_n hx hb dX12_usual_142 rfl (lv_at hl 0 rfl) ?_
    refine lv_iconst (v := (-1 : Int32)) hx hb dX12_usual_143 (by decide) ?_
    refine m_put X hw_usual hM 27 (by decide) fl_usual_27 mi_27 rfl (tyX12_ok 27 (by decide)) dX12_usual_144 (fun H locs hM => ?_)
    obtain ⟨I3, ev, hf⟩ := m_bndE hf
    replace hM := m_hI hM ev
    clear ev
    refine lv_aload_n hx hb dX12_usual_147 rfl (lv_at hl 0 rfl) ?_
    refine lv_iconst (v := (0 : Int32)) hx hb dX12_usual_148 (by decide) ?_
    refine m_put X hw_usual hM 28 (by decide) fl_usual_28 mi_28 rfl (tyX12_ok 28 (by decide)) dX12_usual_149 (fun H locs hM => ?_)
    obtain ⟨I4, ev, hf⟩ := m_bndE hf
    replace hM := m_hI hM ev
    clear ev
    refine lv_aload_n hx hb dX12_usual_152 rfl (lv_at hl 0 rfl) ?_
    refine lv_iconst (v := (1 : Int32)) hx hb dX12_usual_153 (by decide) ?_
    refine m_put X hw_usual hM 29 (by decide) fl_usual_29 mi_29 rfl (tyX12_ok 29 (by decide)) dX12_usual_154 (fun H locs hM => ?_)
    obtain ⟨I5, ev, hf⟩ := m_bndE hf
    replace hM := m_hI hM ev
    clear ev
    refine lv_aload_n hx hb dX12_usual_157 rfl (lv_at hl 0 rfl) ?_
    refine lv_iload_n hx hb dX12_usual_158 rfl (lv_at hl 1 rfl) ?_
    obtain ⟨o6, ho, hf⟩ := m_clE hf
    refine m_callVv X hM (c_start ho) gX12_usual_X12_start rfl ⟨rfl, rfl⟩ hd_start ⟨Nat.le_of_ble_eq_true rfl, Nat.le_of_ble_eq_true rfl⟩ rfl hl.1 rfl (Nat.le_of_ble_eq_true rfl) dX12_usual_159 (fun H locs hM => ?_)
    clear ho
    cases hf
    exact hret H locs _ ls hM dX12_usual_162
  · replace hf := m_ifF hf cc1
    refine lv_iload_n hx hb dX12_usual_29 rfl (lv_at hl 2 rfl) ?_
    refine lv_if_eq (tgt := 39) hx hb dX12_usual_30 (by decide) (fun cc1 => ?_) (fun cc1 => ?_)
    · replace hf := m_ifT hf cc1
      exact w_usual_39 X hret hself23 hf hM (lv_sub hl [0, 1, 2] rfl)
    · replace hf := m_ifF hf cc1
      refine lv_iload_n hx hb dX12_usual_33 rfl (lv_at hl 2 rfl) ?_
      refine lv_bipush (v := (7 : Int32)) hx hb dX12_usual_34 (by decide) ?_
      refine lv_icmp_ne (tgt := 43) hx hb dX12_usual_36 (by decide) (fun cc1 => ?_) (fun cc1 => ?_)
      · replace hf := m_ifF hf cc1
        refine lv_iload_n hx hb dX12_usual_43 rfl (lv_at hl 2 rfl) ?_
        refine lv_iconst (v := (1 : Int32)) hx hb dX12_usual_44 (by decide) ?_
        refine lv_icmp_eq (tgt := 54) hx hb dX12_usual_45 (by decide) (fun cc1 => ?_) (fun cc1 => ?_)
        · replace hf := m_ifT hf cc1
          exact w_usual_54 X hret hself23 hf hM (lv_sub hl [0, 1, 2] rfl)
        · replace hf := m_ifF hf cc1
          refine lv_iload_n hx hb dX12_usual_48 rfl (lv_at hl 2 rfl) ?_
          refine lv_bipush (v := (6 : Int32)) hx hb dX12_usual_49 (by decide) ?_
          refine lv_icmp_ne (tgt := 58) hx hb dX12_usual_51 (by decide) (fun cc1 => ?_) (fun cc1 => ?_)
          · replace hf := m_ifF hf cc1
            refine lv_iload_n hx hb dX12_usual_58 rfl (lv_at hl 2 rfl) ?_
            refine lv_iconst (v := (2 : Int32)) hx hb dX12_usual_59 (by decide) ?_
            refine lv_icmp_eq (tgt := 68) hx hb dX12_usual_60 (by decide) (fun cc1 => ?_) (fun cc1 => ?_)
            · replace hf := m_ifT hf cc1
              exact w_usual_68 X hret hself23 hf hM (lv_sub hl [0, 1, 2] rfl)
            · replace hf := m_ifF hf cc1
              refine lv_iload_n hx hb dX12_usual_63 rfl (lv_at hl 2 rfl) ?_
              refine lv_iconst (v := (5 : Int32)) hx hb dX12_usual_64 (by decide) ?_
              refine lv_icmp_ne (tgt := 72) hx hb dX12_usual_65 (by decide) (fun cc1 => ?_) (fun cc1 => ?_)
              · replace hf := m_ifF hf cc1
                refine lv_iload_n hx hb dX12_usual_72 rfl (lv_at hl 2 rfl) ?_
                refine lv_iconst (v := (3 : Int32)) hx hb dX12_usual_73 (by decide) ?_
                refine lv_icmp_ne (tgt := 81) hx hb dX12_usual_74 (by decide) (fun cc1 => ?_) (fun cc1 => ?_)
                · replace hf := m_ifF hf cc1
                  refine lv_bipush (v := (6 : Int32)) hx hb dX12_usual_81 (by decide) ?_
                  exact w_usual_83 X hret hself23 hf hM (lv_sub hl [0, 1, 2] rfl)
                · replace hf := m_ifT hf cc1
                  refine lv_iconst (v := (5 : Int32)) hx hb dX12_usual_77 (by decide) ?_
                  refine lv_goto (tgt := 83) hx hb dX12_usual_78 (by decide) ?_
                  exact w_usual_83 X hret hself23 hf hM (lv_sub hl [0, 1, 2] rfl)
              · replace hf := m_ifT hf cc1
                exact w_usual_68 X hret hself23 hf hM (lv_sub hl [0, 1, 2] rfl)
          · replace hf := m_ifT hf cc1
            exact w_usual_54 X hret hself23 hf hM (lv_sub hl [0, 1, 2] rfl)
      · replace hf := m_ifT hf cc1
        exact w_usual_39 X hret hself23 hf hM (lv_sub hl [0, 1, 2] rfl)
def f_usual_23 : Nat → Int32 → Int32 → (Nat → Int32) → (Nat → Nat → Int32) → Option (Int32 × MS)
  | 0 => fun _ _ _ _ => none
  | n + 1 => f_usual_23s (f_usual_23 n)
theorem w_usual_23 {p : Program} {l : Launch} {e : Env} {s : State} {m : MethodId} {args : Array Value} {below : List Frame} {meth : Method} {c : Code} {Q : State → Prop} {D : va_G} {cy ci : ClassId} {h : Nat → Nat} {A0 : Nat → Prop} {o : Int32 × MS} (X : CallFix p m c cX12_usual 4 s args wsX12_usual RX12) (hret : mRv p l e ({ frames := 1, cells := 0, slots := 0, locals := 22 } : Room) s m args below meth c Q cX12_usual D cy ci h A0 o) (n : Nat) : ∀ (x1 : Int32) (x2 : Int32) (I : Nat → Int32) (A : Nat → Nat → Int32) (H : Heap) (locs : List Loc) (ls : Array Slot), f_usual_23 n x1 x2 I A = some o → mH D cy ci h A0 s H locs I A → lv_has ls 4 [(0, .ref (h 0)), (1, .int x1), (2, .int x2)] → W p l e ({ frames := 1, cells := 0, slots := 0, locals := 22 } : Room) s m args below meth c H locs 0 0 Q (F0 m 23 ls []) := by
  induction n with
  | zero => intro x1 x2 I A H locs ls hf; cases hf
  | succ n ih => intro x1 x2 I A H locs ls hf hM hl; exact ws_usual_23 X hret (self23 := f_usual_23 n) ih hf hM hl
def f_usual_2s (self2 : Int32 → Int32 → (Nat → Int32) → (Nat → Nat → Int32) → Option (Int32 × MS)) (x1 : Int32) (x2 : Int32) (I : Nat → Int32) (A : Nat → Nat → Int32) : Option (Int32 × MS) :=
  m_if ((64 : Int32) ≤ x2) (
  f_usual_23 mFuel x1 (0 : Int32) I A
  ) (
  m_chk (¬ (x2 < 0 ∨ 64 ≤ (x2).toNatClampNeg)) (
  m_bnd (va_up A 24 (upd (A 24) (x2).toNatClampNeg (0 : Int32))) (fun A1 =>
  m_bnd (x2 + (1 : Int32)) (fun v2 =>
  self2 x1 v2 I A1)))
  )

set_option maxRecDepth 100000 in
set_option maxHeartbeats 4000000 in
theorem ws_usual_2 {p : Program} {l : Launch} {e : Env} {s : State} {m : MethodId} {args : Array Value} {below : List Frame} {meth : Method} {c : Code} {Q : State → Prop} {D : va_G} {cy ci : ClassId} {h : Nat → Nat} {A0 : Nat → Prop} {o : Int32 × MS} (X : CallFix p m c cX12_usual 4 s args wsX12_usual RX12) (hret : mRv p l e ({ frames := 1, cells := 0, slots := 0, locals := 22 } : Room) s m args below meth c Q cX12_usual D cy ci h A0 o) {self2 : Int32 → Int32 → (Nat → Int32) → (Nat → Nat → Int32) → Option (Int32 × MS)} (hself2 : ∀ (x1 : Int32) (x2 : Int32) (I : Nat → Int32) (A : Nat → Nat → Int32) (H : Heap) (locs : List Loc) (ls : Array Slot), self2 x1 x2 I A = some o → mH D cy ci h A0 s H locs I A → lv_has ls 4 [(0, .ref (h 0)), (1, .int x1), (2, .int x2)] → W p l e ({ frames := 1, cells := 0, slots := 0, locals := 22 } : Room) s m args below meth c H locs 0 0 Q (F0 m 2 ls [])) {x1 : Int32} {x2 : Int32} {I : Nat → Int32} {A : Nat → Nat → Int32} {H : Heap} {locs : List Loc} {ls : Array Slot} (hf : f_usual_2s self2 x1 x2 I A = some o) (hM : mH D cy ci h A0 s H locs I A) (hl : lv_has ls 4 [(0, .ref (h 0)), (1, .int x1), (2, .int x2)]) : W p l e ({ frames := 1, cells := 0, slots := 0, locals := 22 } : Room) s m args below meth c H locs 0 0 Q (F0 m 2 ls []) := by
  obtain ⟨hx, hb, hml, hown, hts⟩ := id X
  unfold f_usual_2s at hf
  refine lv_iload_n hx hb dX12_usual_2 rfl (lv_at hl 2 rfl) ?_
  refine lv_bipush (v := (64 : Int32)) hx hb dX12_usual_3 (by decide) ?_
  refine lv_icmp_ge (tgt := 21) hx hb dX12_usual_5 (by decide) (fun cc1 => ?_) (fun cc1 => ?_)
  · replace hf := m_ifT hf cc1
    refine lv_iconst (v := (0 : Int32)) hx hb dX12_usual_21 (by decide) ?_
    refine lv_istore_n (lv' := [(2, .int (0 : Int32)), (0, .ref (h 0)), (1, .int x1)]) hx hb dX12_usual_22 rfl hl (by decide) rfl (fun ls hl => ?_)
    exact w_usual_23 X hret _ _ _ _ _ _ _ _ hf hM (lv_sub hl [1, 2, 0] rfl)
  · replace hf := m_ifF hf cc1
    refine lv_aload_n hx hb dX12_usual_8 rfl (lv_at hl 0 rfl) ?_
    refine m_get (v := .ref (h 24)) X hw_usual hM 24 (by decide) fl_usual_24 rfl dX12_usual_9 ?_
    refine lv_iload_n hx hb dX12_usual_12 rfl (lv_at hl 2 rfl) ?_
    refine lv_iconst (v := (0 : Int32)) hx hb dX12_usual_13 (by decide) ?_
    obtain ⟨cd, hf⟩ := m_chkE hf
    refine m_iast X hM 24 20 64 rfl ma_24 cd dX12_usual_14 (fun H locs hM => ?_)
    clear cd
    obtain ⟨A1, ev, hf⟩ := m_bndE hf
    replace hM := m_hA hM ev
    clear ev
    obtain ⟨v2, ev, hf⟩ := m_bndE hf
    refine lv_iinc (v := v2) (lv' := [(2, .int v2), (0, .ref (h 0)), (1, .int x1)]) hx hb dX12_usual_15 hl (k := 2) rfl (by rw [ev]; rfl) (by decide) rfl (fun ls hl => ?_)
    clear ev
    refine lv_goto (tgt := 2) hx hb dX12_usual_18 (by decide) ?_
    exact hself2 _ _ _ _ _ _ _ hf hM (lv_sub hl [1, 2, 0] rfl)
def f_usual_2 : Nat → Int32 → Int32 → (Nat → Int32) → (Nat → Nat → Int32) → Option (Int32 × MS)
  | 0 => fun _ _ _ _ => none
  | n + 1 => f_usual_2s (f_usual_2 n)
theorem w_usual_2 {p : Program} {l : Launch} {e : Env} {s : State} {m : MethodId} {args : Array Value} {below : List Frame} {meth : Method} {c : Code} {Q : State → Prop} {D : va_G} {cy ci : ClassId} {h : Nat → Nat} {A0 : Nat → Prop} {o : Int32 × MS} (X : CallFix p m c cX12_usual 4 s args wsX12_usual RX12) (hret : mRv p l e ({ frames := 1, cells := 0, slots := 0, locals := 22 } : Room) s m args below meth c Q cX12_usual D cy ci h A0 o) (n : Nat) : ∀ (x1 : Int32) (x2 : Int32) (I : Nat → Int32) (A : Nat → Nat → Int32) (H : Heap) (locs : List Loc) (ls : Array Slot), f_usual_2 n x1 x2 I A = some o → mH D cy ci h A0 s H locs I A → lv_has ls 4 [(0, .ref (h 0)), (1, .int x1), (2, .int x2)] → W p l e ({ frames := 1, cells := 0, slots := 0, locals := 22 } : Room) s m args below meth c H locs 0 0 Q (F0 m 2 ls []) := by
  induction n with
  | zero => intro x1 x2 I A H locs ls hf; cases hf
  | succ n ih => intro x1 x2 I A H locs ls hf hM hl; exact ws_usual_2 X hret (self2 := f_usual_2 n) ih hf hM hl
def f_usual_0 (x1 : Int32) (I : Nat → Int32) (A : Nat → Nat → Int32) : Option (Int32 × MS) :=
  f_usual_2 mFuel x1 (0 : Int32) I A

set_option maxRecDepth 100000 in
set_option maxHeartbeats 4000000 in
theorem w_usual_0 {p : Program} {l : Launch} {e : Env} {s : State} {m : MethodId} {args : Array Value} {below : List Frame} {meth : Method} {c : Code} {Q : State → Prop} {D : va_G} {cy ci : ClassId} {h : Nat → Nat} {A0 : Nat → Prop} {o : Int32 × MS} (X : CallFix p m c cX12_usual 4 s args wsX12_usual RX12) (hret : mRv p l e ({ frames := 1, cells := 0, slots := 0, locals := 22 } : Room) s m args below meth c Q cX12_usual D cy ci h A0 o) {x1 : Int32} {I : Nat → Int32} {A : Nat → Nat → Int32} {H : Heap} {locs : List Loc} {ls : Array Slot} (hf : f_usual_0 x1 I A = some o) (hM : mH D cy ci h A0 s H locs I A) (hl : lv_has ls 4 [(0, .ref (h 0)), (1, .int x1)]) : W p l e ({ frames := 1, cells := 0, slots := 0, locals := 22 } : Room) s m args below meth c H locs 0 0 Q (F0 m 0 ls []) := by
  obtain ⟨hx, hb, hml, hown, hts⟩ := id X
  unfold f_usual_0 at hf
  refine lv_iconst (v := (0 : Int32)) hx hb dX12_usual_0 (by decide) ?_
  refine lv_istore_n (lv' := [(2, .int (0 : Int32)), (0, .ref (h 0)), (1, .int x1)]) hx hb dX12_usual_1 rfl hl (by decide) rfl (fun ls hl => ?_)
  exact w_usual_2 X hret _ _ _ _ _ _ _ _ hf hM (lv_sub hl [1, 2, 0] rfl)
def f_usual (x1 : Int32) (I : Nat → Int32) (A : Nat → Nat → Int32) : Option (Int32 × MS) := f_usual_0 x1 I A
theorem c_usual {l : Launch} {D : va_G} {cy ci : ClassId} {h : Nat → Nat} {x1 : Int32} {I : Nat → Int32} {A : Nat → Nat → Int32} {o : Int32 × MS} (hf : f_usual x1 I A = some o) : mMv l yX12_usual wsX12_usual ({ frames := 1, cells := 0, slots := 0, locals := 22 } : Room) [.ref (h 0), .int x1] D cy ci h I A o :=
  m_entryV (cc := cX12_usual) (maxL := 4) (by decide) rfl rfl (Nat.le_of_ble_eq_true rfl) (fun p e s m args below meth c A0 Q H locs ls X hret hM hl => w_usual_0 X hret hf hM (lv_sub hl [0, 1] rfl))
theorem hd_kind : yX12_kind.cls ≠ "java/lang/invoke/MethodHandle" ∧ yX12_kind.cls ≠ "java/lang/invoke/VarHandle" ∧ (parseMethodDescriptor yX12_kind.desc).map (fun d => d.parameters.length) = some 1 := by decide +kernel
def f_kind_0 (x0 : Int32) (I : Nat → Int32) (A : Nat → Nat → Int32) : Option (Int32 × MS) :=
  m_bnd (x0 &&& (7 : Int32)) (fun v1 =>
  some (v1, (I, A)))

set_option maxRecDepth 100000 in
set_option maxHeartbeats 4000000 in
theorem w_kind_0 {p : Program} {l : Launch} {e : Env} {s : State} {m : MethodId} {args : Array Value} {below : List Frame} {meth : Method} {c : Code} {Q : State → Prop} {D : va_G} {cy ci : ClassId} {h : Nat → Nat} {A0 : Nat → Prop} {o : Int32 × MS} (X : CallFix p m c cX12_kind 1 s args wsX12_kind RX12) (hret : mRi p l e ({ frames := 0, cells := 0, slots := 0, locals := 0 } : Room) s m args below meth c Q cX12_kind D cy ci h A0 .int o) {x0 : Int32} {I : Nat → Int32} {A : Nat → Nat → Int32} {H : Heap} {locs : List Loc} {ls : Array Slot} (hf : f_kind_0 x0 I A = some o) (hM : mH D cy ci h A0 s H locs I A) (hl : lv_has ls 1 [(0, .int x0)]) : W p l e ({ frames := 0, cells := 0, slots := 0, locals := 0 } : Room) s m args below meth c H locs 0 0 Q (F0 m 0 ls []) := by
  obtain ⟨hx, hb, hml, hown, hts⟩ := id X
  unfold f_kind_0 at hf
  refine lv_iload_n hx hb dX12_kind_0 rfl (lv_at hl 0 rfl) ?_
  refine lv_bipush (v := (7 : Int32)) hx hb dX12_kind_1 (by decide) ?_
  refine lv_iand hx hb dX12_kind_3 ?_
  obtain ⟨v1, ev, hf⟩ := m_bndE hf
  refine m_top ev ?_
  clear ev
  cases hf
  exact hret H locs _ ls hM rfl dX12_kind_4
def f_kind (x0 : Int32) (I : Nat → Int32) (A : Nat → Nat → Int32) : Option (Int32 × MS) := f_kind_0 x0 I A
theorem c_kind {l : Launch} {D : va_G} {cy ci : ClassId} {h : Nat → Nat} {x0 : Int32} {I : Nat → Int32} {A : Nat → Nat → Int32} {o : Int32 × MS} (hf : f_kind x0 I A = some o) : mMi l yX12_kind wsX12_kind ({ frames := 0, cells := 0, slots := 0, locals := 0 } : Room) [.int x0] D cy ci h I A o :=
  m_entryI (cc := cX12_kind) (maxL := 1) (by decide) rfl rfl (Nat.le_of_ble_eq_true rfl) (fun p e s m args below meth c A0 Q H locs ls X hret hM hl => w_kind_0 X hret hf hM (lv_sub hl [0] rfl))
theorem hw_isTaking : ∀ w ∈ wsX120, w ∈ wsX12_isTaking := by decide +kernel
theorem fl_isTaking_24 : Cond.fieldLink RX12 70 "MoveTextsModel" "men" "[I" ∈ wsX12_isTaking := by decide +kernel
theorem hd_isTaking : yX12_isTaking.cls = RX12 ∧ yX12_isTaking.cls ≠ "java/lang/invoke/MethodHandle" ∧ yX12_isTaking.cls ≠ "java/lang/invoke/VarHandle" ∧ (parseMethodDescriptor yX12_isTaking.desc).map (fun d => d.parameters.length) = some 1 := by decide +kernel
def f_isTaking_51 (t0 : Int32) (I : Nat → Int32) (A : Nat → Nat → Int32) : Option (Int32 × MS) :=
  m_chk (vp_nar .boolean t0 = t0) (some (t0, (I, A)))

set_option maxRecDepth 100000 in
set_option maxHeartbeats 4000000 in
theorem w_isTaking_51 {p : Program} {l : Launch} {e : Env} {s : State} {m : MethodId} {args : Array Value} {below : List Frame} {meth : Method} {c : Code} {Q : State → Prop} {D : va_G} {cy ci : ClassId} {h : Nat → Nat} {A0 : Nat → Prop} {o : Int32 × MS} (X : CallFix p m c cX12_isTaking 4 s args wsX12_isTaking RX12) (hret : mRi p l e ({ frames := 1, cells := 0, slots := 0, locals := 20 } : Room) s m args below meth c Q cX12_isTaking D cy ci h A0 .boolean o) {t0 : Int32} {I : Nat → Int32} {A : Nat → Nat → Int32} {H : Heap} {locs : List Loc} {ls : Array Slot} (hf : f_isTaking_51 t0 I A = some o) (hM : mH D cy ci h A0 s H locs I A) (hl : lv_has ls 4 []) : W p l e ({ frames := 1, cells := 0, slots := 0, locals := 20 } : Room) s m args below meth c H locs 0 0 Q (F0 m 51 ls [.int t0]) := by
  obtain ⟨hx, hb, hml, hown, hts⟩ := id X
  unfold f_isTaking_51 at hf
  obtain ⟨cd, hf⟩ := m_chkE hf
  cases hf
  exact hret H locs _ ls hM (m_nb cd) dX12_isTaking_51
def f_isTaking_46 (I : Nat → Int32) (A : Nat → Nat → Int32) : Option (Int32 × MS) :=
  f_isTaking_51 (1 : Int32) I A

set_option maxRecDepth 100000 in
set_option maxHeartbeats 4000000 in
theorem w_isTaking_46 {p : Program} {l : Launch} {e : Env} {s : State} {m : MethodId} {args : Array Value} {below : List Frame} {meth : Method} {c : Code} {Q : State → Prop} {D : va_G} {cy ci : ClassId} {h : Nat → Nat} {A0 : Nat → Prop} {o : Int32 × MS} (X : CallFix p m c cX12_isTaking 4 s args wsX12_isTaking RX12) (hret : mRi p l e ({ frames := 1, cells := 0, slots := 0, locals := 20 } : Room) s m args below meth c Q cX12_isTaking D cy ci h A0 .boolean o) {I : Nat → Int32} {A : Nat → Nat → Int32} {H : Heap} {locs : List Loc} {ls : Array Slot} (hf : f_isTaking_46  I A = some o) (hM : mH D cy ci h A0 s H locs I A) (hl : lv_has ls 4 []) : W p l e ({ frames := 1, cells := 0, slots := 0, locals := 20 } : Room) s m args below meth c H locs 0 0 Q (F0 m 46 ls []) := by
  obtain ⟨hx, hb, hml, hown, hts⟩ := id X
  unfold f_isTaking_46 at hf
  refine lv_iconst (v := (1 : Int32)) hx hb dX12_isTaking_46 (by decide) ?_
  refine lv_goto (tgt := 51) hx hb dX12_isTaking_47 (by decide) ?_
  exact w_isTaking_51 X hret hf hM (lv_sub hl [] rfl)
def f_isTaking_50 (I : Nat → Int32) (A : Nat → Nat → Int32) : Option (Int32 × MS) :=
  f_isTaking_51 (0 : Int32) I A

set_option maxRecDepth 100000 in
set_option maxHeartbeats 4000000 in
theorem w_isTaking_50 {p : Program} {l : Launch} {e : Env} {s : State} {m : MethodId} {args : Array Value} {below : List Frame} {meth : Method} {c : Code} {Q : State → Prop} {D : va_G} {cy ci : ClassId} {h : Nat → Nat} {A0 : Nat → Prop} {o : Int32 × MS} (X : CallFix p m c cX12_isTaking 4 s args wsX12_isTaking RX12) (hret : mRi p l e ({ frames := 1, cells := 0, slots := 0, locals := 20 } : Room) s m args below meth c Q cX12_isTaking D cy ci h A0 .boolean o) {I : Nat → Int32} {A : Nat → Nat → Int32} {H : Heap} {locs : List Loc} {ls : Array Slot} (hf : f_isTaking_50  I A = some o) (hM : mH D cy ci h A0 s H locs I A) (hl : lv_has ls 4 []) : W p l e ({ frames := 1, cells := 0, slots := 0, locals := 20 } : Room) s m args below meth c H locs 0 0 Q (F0 m 50 ls []) := by
  obtain ⟨hx, hb, hml, hown, hts⟩ := id X
  unfold f_isTaking_50 at hf
  refine lv_iconst (v := (0 : Int32)) hx hb dX12_isTaking_50 (by decide) ?_
  exact w_isTaking_51 X hret hf hM (lv_sub hl [] rfl)
def f_isTaking_0 (x1 : Int32) (I : Nat → Int32) (A : Nat → Nat → Int32) : Option (Int32 × MS) :=
  m_bnd (x1 - x1 / (64 : Int32) * (64 : Int32)) (fun v1 =>
  m_bnd (x1 / (64 : Int32)) (fun v2 =>
  m_bnd (v2 - v2 / (64 : Int32) * (64 : Int32)) (fun v3 =>
  m_chk (¬ (v3 < 0 ∨ 64 ≤ (v3).toNatClampNeg)) (
  m_bnd (A 24 (v3).toNatClampNeg) (fun v4 =>
  m_if (v4 = 0) (
  m_chk (¬ (v1 < 0 ∨ 64 ≤ (v1).toNatClampNeg)) (
  m_bnd (A 24 (v1).toNatClampNeg) (fun v5 =>
  m_cl (f_kind v5 I A) (fun r6 Ic6 Ac6 =>
  m_if (r6 = (1 : Int32)) (
  m_bnd (v1 - v1 / (8 : Int32) * (8 : Int32)) (fun v7 =>
  m_bnd (v3 - v3 / (8 : Int32) * (8 : Int32)) (fun v8 =>
  m_if (v7 = v8) (
  f_isTaking_50  Ic6 Ac6
  ) (
  f_isTaking_46  Ic6 Ac6
  )))
  ) (
  f_isTaking_50  Ic6 Ac6
  ))))
  ) (
  f_isTaking_46  I A
  ))))))

set_option maxRecDepth 100000 in
set_option maxHeartbeats 4000000 in
theorem w_isTaking_0 {p : Program} {l : Launch} {e : Env} {s : State} {m : MethodId} {args : Array Value} {below : List Frame} {meth : Method} {c : Code} {Q : State → Prop} {D : va_G} {cy ci : ClassId} {h : Nat → Nat} {A0 : Nat → Prop} {o : Int32 × MS} (X : CallFix p m c cX12_isTaking 4 s args wsX12_isTaking RX12) (hret : mRi p l e ({ frames := 1, cells := 0, slots := 0, locals := 20 } : Room) s m args below meth c Q cX12_isTaking D cy ci h A0 .boolean o) {x1 : Int32} {I : Nat → Int32} {A : Nat → Nat → Int32} {H : Heap} {locs : List Loc} {ls : Array Slot} (hf : f_isTaking_0 x1 I A = some o) (hM : mH D cy ci h A0 s H locs I A) (hl : lv_has ls 4 [(0, .ref (h 0)), (1, .int x1)]) : W p l e ({ frames := 1, cells := 0, slots := 0, locals := 20 } : Room) s m args below meth c H locs 0 0 Q (F0 m 0 ls []) := by
  obtain ⟨hx, hb, hml, hown, hts⟩ := id X
  unfold f_isTaking_0 at hf
  refine lv_iload_n hx hb dX12_isTaking_0 rfl (lv_at hl 1 rfl) ?_
  refine lv_bipush (v := (64 : Int32)) hx hb dX12_isTaking_1 (by decide) ?_
  refine lv_irem hx hb dX12_isTaking_3 (by decide) ?_
  obtain ⟨v1, ev, hf⟩ := m_bndE hf
  refine m_top ev ?_
  clear ev
  refine lv_istore_n (lv' := [(2, .int v1), (0, .ref (h 0)), (1, .int x1)]) hx hb dX12_isTaking_4 rfl hl (by decide) rfl (fun ls hl => ?_)
  refine lv_iload_n hx hb dX12_isTaking_5 rfl (lv_at hl 2 rfl) ?_
  refine lv_bipush (v := (64 : Int32)) hx hb dX12_isTaking_6 (by decide) ?_
  refine lv_idiv hx hb dX12_isTaking_8 (by decide) ?_
  obtain ⟨v2, ev, hf⟩ := m_bndE hf
  refine m_top ev ?_
  clear ev
  refine lv_bipush (v := (64 : Int32)) hx hb dX12_isTaking_9 (by decide) ?_
  refine lv_irem hx hb dX12_isTaking_11 (by decide) ?_
  obtain ⟨v3, ev, hf⟩ := m_bndE hf
  refine m_top ev ?_
  clear ev
  refine lv_istore_n (lv' := [(3, .int v3), (2, .int v1), (0, .ref (h 0)), (1, .int x1)]) hx hb dX12_isTaking_12 rfl hl (by decide) rfl (fun ls hl => ?_)
  refine lv_aload_n hx hb dX12_isTaking_13 rfl (lv_at hl 2 rfl) ?_
  refine m_get (v := .ref (h 24)) X hw_isTaking hM 24 (by decide) fl_isTaking_24 rfl dX12_isTaking_14 ?_
  refine lv_iload_n hx hb dX12_isTaking_17 rfl (lv_at hl 0 rfl) ?_
  obtain ⟨cd, hf⟩ := m_chkE hf
  refine m_iald X hM 24 20 64 rfl cd dX12_isTaking_18 ?_
  clear cd
  obtain ⟨v4, ev, hf⟩ := m_bndE hf
  refine m_top ev ?_
  clear ev
  refine lv_if_ne (tgt := 46) hx hb dX12_isTaking_19 (by decide) (fun cc1 => ?_) (fun cc1 => ?_)
  · replace hf := m_ifF hf cc1
    exact w_isTaking_46 X hret hf hM (lv_sub hl [] rfl)
  · replace hf := m_ifT hf cc1
    refine lv_aload_n hx hb dX12_isTaking_22 rfl (lv_at hl 2 rfl) ?_
    refine m_get (v := .ref (h 24)) X hw_isTaking hM 24 (by decide) fl_isTaking_24 rfl dX12_isTaking_23 ?_
    refine lv_iload_n hx hb dX12_isTaking_26 rfl (lv_at hl 1 rfl) ?_
    obtain ⟨cd, hf⟩ := m_chkE hf
    refine m_iald X hM 24 20 64 rfl cd dX12_isTaking_27 ?_
    clear cd
    obtain ⟨v5, ev, hf⟩ := m_bndE hf
    refine m_top ev ?_
    clear ev
    obtain ⟨o6, ho, hf⟩ := m_clE hf
    refine m_callSi X hM (c_kind ho) gX12_isTaking_X12_kind rfl ⟨rfl, rfl⟩ hd_kind ⟨Nat.le_of_ble_eq_true rfl, Nat.le_of_ble_eq_true rfl⟩ rfl hl.1 rfl (Nat.le_of_ble_eq_true rfl) dX12_isTaking_28 (fun H locs hM => ?_)
    clear ho
    refine lv_iconst (v := (1 : Int32)) hx hb dX12_isTaking_31 (by decide) ?_
    refine lv_icmp_ne (tgt := 50) hx hb dX12_isTaking_32 (by decide) (fun cc1 => ?_) (fun cc1 => ?_)
    · replace hf := m_ifF hf cc1
      exact w_isTaking_50 X hret hf hM (lv_sub hl [] rfl)
    · replace hf := m_ifT hf cc1
      refine lv_iload_n hx hb dX12_isTaking_35 rfl (lv_at hl 1 rfl) ?_
      refine lv_bipush (v := (8 : Int32)) hx hb dX12_isTaking_36 (by decide) ?_
      refine lv_irem hx hb dX12_isTaking_38 (by decide) ?_
      obtain ⟨v7, ev, hf⟩ := m_bndE hf
      refine m_top ev ?_
      clear ev
      refine lv_iload_n hx hb dX12_isTaking_39 rfl (lv_at hl 0 rfl) ?_
      refine lv_bipush (v := (8 : Int32)) hx hb dX12_isTaking_40 (by decide) ?_
      refine lv_irem hx hb dX12_isTaking_42 (by decide) ?_
      obtain ⟨v8, ev, hf⟩ := m_bndE hf
      refine m_top ev ?_
      clear ev
      refine lv_icmp_eq (tgt := 50) hx hb dX12_isTaking_43 (by decide) (fun cc1 => ?_) (fun cc1 => ?_)
      · replace hf := m_ifT hf cc1
        exact w_isTaking_50 X hret hf hM (lv_sub hl [] rfl)
      · replace hf := m_ifF hf cc1
        exact w_isTaking_46 X hret hf hM (lv_sub hl [] rfl)
def f_isTaking (x1 : Int32) (I : Nat → Int32) (A : Nat → Nat → Int32) : Option (Int32 × MS) := f_isTaking_0 x1 I A
theorem c_isTaking {l : Launch} {D : va_G} {cy ci : ClassId} {h : Nat → Nat} {x1 : Int32} {I : Nat → Int32} {A : Nat → Nat → Int32} {o : Int32 × MS} (hf : f_isTaking x1 I A = some o) : mMi l yX12_isTaking wsX12_isTaking ({ frames := 1, cells := 0, slots := 0, locals := 20 } : Room) [.ref (h 0), .int x1] D cy ci h I A o :=
  m_entryI (cc := cX12_isTaking) (maxL := 4) (by decide) rfl rfl (Nat.le_of_ble_eq_true rfl) (fun p e s m args below meth c A0 Q H locs ls X hret hM hl => w_isTaking_0 X hret hf hM (lv_sub hl [0, 1] rfl))
theorem hw_lose : ∀ w ∈ wsX120, w ∈ wsX12_lose := by decide +kernel
theorem fl_lose_26 : Cond.fieldLink RX12 124 "MoveTextsModel" "rights" "I" ∈ wsX12_lose := by decide +kernel
theorem hd_lose : yX12_lose.cls = RX12 ∧ yX12_lose.cls ≠ "java/lang/invoke/MethodHandle" ∧ yX12_lose.cls ≠ "java/lang/invoke/VarHandle" ∧ (parseMethodDescriptor yX12_lose.desc).map (fun d => d.parameters.length) = some 1 := by decide +kernel
def f_lose_60 (t0 : Int32) (I : Nat → Int32) (A : Nat → Nat → Int32) : Option (Int32 × MS) :=
  m_bnd (t0 ^^^ (-1 : Int32)) (fun v1 =>
  m_bnd ((I 26) &&& v1) (fun v2 =>
  m_bnd (upd I 26 v2) (fun I3 =>
  some (0, (I3, A)))))

set_option maxRecDepth 100000 in
set_option maxHeartbeats 4000000 in
theorem w_lose_60 {p : Program} {l : Launch} {e : Env} {s : State} {m : MethodId} {args : Array Value} {below : List Frame} {meth : Method} {c : Code} {Q : State → Prop} {D : va_G} {cy ci : ClassId} {h : Nat → Nat} {A0 : Nat → Prop} {o : Int32 × MS} (X : CallFix p m c cX12_lose 3 s args wsX12_lose RX12) (hret : mRv p l e ({ frames := 0, cells := 0, slots := 0, locals := 0 } : Room) s m args below meth c Q cX12_lose D cy ci h A0 o) {t0 : Int32} {I : Nat → Int32} {A : Nat → Nat → Int32} {H : Heap} {locs : List Loc} {ls : Array Slot} (hf : f_lose_60 t0 I A = some o) (hM : mH D cy ci h A0 s H locs I A) (hl : lv_has ls 3 [(0, .ref (h 0))]) : W p l e ({ frames := 0, cells := 0, slots := 0, locals := 0 } : Room) s m args below meth c H locs 0 0 Q (F0 m 60 ls [.int t0]) := by
  obtain ⟨hx, hb, hml, hown, hts⟩ := id X
  unfold f_lose_60 at hf
  refine lv_istore_n (lv' := [(2, .int t0), (0, .ref (h 0))]) hx hb dX12_lose_60 rfl hl (by decide) rfl (fun ls hl => ?_)
  refine lv_aload_n hx hb dX12_lose_61 rfl (lv_at hl 1 rfl) ?_
  refine lv_aload_n hx hb dX12_lose_62 rfl (lv_at hl 1 rfl) ?_
  refine m_get (v := .int (I 26)) X hw_lose hM 26 (by decide) fl_lose_26 rfl dX12_lose_63 ?_
  refine lv_iload_n hx hb dX12_lose_66 rfl (lv_at hl 0 rfl) ?_
  refine lv_iconst (v := (-1 : Int32)) hx hb dX12_lose_67 (by decide) ?_
  refine lv_ixor hx hb dX12_lose_68 ?_
  obtain ⟨v1, ev, hf⟩ := m_bndE hf
  refine m_top ev ?_
  clear ev
  refine lv_iand hx hb dX12_lose_69 ?_
  obtain ⟨v2, ev, hf⟩ := m_bndE hf
  refine m_top ev ?_
  clear ev
  refine m_put X hw_lose hM 26 (by decide) fl_lose_26 mi_26 rfl (tyX12_ok 26 (by decide)) dX12_lose_70 (fun H locs hM => ?_)
  obtain ⟨I3, ev, hf⟩ := m_bndE hf
  replace hM := m_hI hM ev
  clear ev
  cases hf
  exact hret H locs _ ls hM dX12_lose_73
def f_lose_0 (x1 : Int32) (I : Nat → Int32) (A : Nat → Nat → Int32) : Option (Int32 × MS) :=
  m_if (x1 = (4 : Int32)) (
  f_lose_60 (3 : Int32) I A
  ) (
  m_if (x1 = (7 : Int32)) (
  f_lose_60 (1 : Int32) I A
  ) (
  m_if (x1 = 0) (
  f_lose_60 (2 : Int32) I A
  ) (
  m_if (x1 = (60 : Int32)) (
  f_lose_60 (12 : Int32) I A
  ) (
  m_if (x1 = (63 : Int32)) (
  f_lose_60 (4 : Int32) I A
  ) (
  m_if (x1 = (56 : Int32)) (
  f_lose_60 (8 : Int32) I A
  ) (
  f_lose_60 (0 : Int32) I A
  )
  )
  )
  )
  )
  )

set_option maxRecDepth 100000 in
set_option maxHeartbeats 4000000 in
theorem w_lose_0 {p : Program} {l : Launch} {e : Env} {s : State} {m : MethodId} {args : Array Value} {below : List Frame} {meth : Method} {c : Code} {Q : State → Prop} {D : va_G} {cy ci : ClassId} {h : Nat → Nat} {A0 : Nat → Prop} {o : Int32 × MS} (X : CallFix p m c cX12_lose 3 s args wsX12_lose RX12) (hret : mRv p l e ({ frames := 0, cells := 0, slots := 0, locals := 0 } : Room) s m args below meth c Q cX12_lose D cy ci h A0 o) {x1 : Int32} {I : Nat → Int32} {A : Nat → Nat → Int32} {H : Heap} {locs : List Loc} {ls : Array Slot} (hf : f_lose_0 x1 I A = some o) (hM : mH D cy ci h A0 s H locs I A) (hl : lv_has ls 3 [(0, .ref (h 0)), (1, .int x1)]) : W p l e ({ frames := 0, cells := 0, slots := 0, locals := 0 } : Room) s m args below meth c H locs 0 0 Q (F0 m 0 ls []) := by
  obtain ⟨hx, hb, hml, hown, hts⟩ := id X
  unfold f_lose_0 at hf
  refine lv_iload_n hx hb dX12_lose_0 rfl (lv_at hl 1 rfl) ?_
  refine lv_iconst (v := (4 : Int32)) hx hb dX12_lose_1 (by decide) ?_
  refine lv_icmp_ne (tgt := 9) hx hb dX12_lose_2 (by decide) (fun cc1 => ?_) (fun cc1 => ?_)
  · replace hf := m_ifF hf cc1
    refine lv_iload_n hx hb dX12_lose_9 rfl (lv_at hl 1 rfl) ?_
    refine lv_bipush (v := (7 : Int32)) hx hb dX12_lose_10 (by decide) ?_
    refine lv_icmp_ne (tgt := 19) hx hb dX12_lose_12 (by decide) (fun cc1 => ?_) (fun cc1 => ?_)
    · replace hf := m_ifF hf cc1
      refine lv_iload_n hx hb dX12_lose_19 rfl (lv_at hl 1 rfl) ?_
      refine lv_if_ne (tgt := 27) hx hb dX12_lose_20 (by decide) (fun cc1 => ?_) (fun cc1 => ?_)
      · replace hf := m_ifF hf cc1
        refine lv_iload_n hx hb dX12_lose_27 rfl (lv_at hl 1 rfl) ?_
        refine lv_bipush (v := (60 : Int32)) hx hb dX12_lose_28 (by decide) ?_
        refine lv_icmp_ne (tgt := 38) hx hb dX12_lose_30 (by decide) (fun cc1 => ?_) (fun cc1 => ?_)
        · replace hf := m_ifF hf cc1
          refine lv_iload_n hx hb dX12_lose_38 rfl (lv_at hl 1 rfl) ?_
          refine lv_bipush (v := (63 : Int32)) hx hb dX12_lose_39 (by decide) ?_
          refine lv_icmp_ne (tgt := 48) hx hb dX12_lose_41 (by decide) (fun cc1 => ?_) (fun cc1 => ?_)
          · replace hf := m_ifF hf cc1
            refine lv_iload_n hx hb dX12_lose_48 rfl (lv_at hl 1 rfl) ?_
            refine lv_bipush (v := (56 : Int32)) hx hb dX12_lose_49 (by decide) ?_
            refine lv_icmp_ne (tgt := 59) hx hb dX12_lose_51 (by decide) (fun cc1 => ?_) (fun cc1 => ?_)
            · replace hf := m_ifF hf cc1
              refine lv_iconst (v := (0 : Int32)) hx hb dX12_lose_59 (by decide) ?_
              exact w_lose_60 X hret hf hM (lv_sub hl [0] rfl)
            · replace hf := m_ifT hf cc1
              refine lv_bipush (v := (8 : Int32)) hx hb dX12_lose_54 (by decide) ?_
              refine lv_goto (tgt := 60) hx hb dX12_lose_56 (by decide) ?_
              exact w_lose_60 X hret hf hM (lv_sub hl [0] rfl)
          · replace hf := m_ifT hf cc1
            refine lv_iconst (v := (4 : Int32)) hx hb dX12_lose_44 (by decide) ?_
            refine lv_goto (tgt := 60) hx hb dX12_lose_45 (by decide) ?_
            exact w_lose_60 X hret hf hM (lv_sub hl [0] rfl)
        · replace hf := m_ifT hf cc1
          refine lv_bipush (v := (12 : Int32)) hx hb dX12_lose_33 (by decide) ?_
          refine lv_goto (tgt := 60) hx hb dX12_lose_35 (by decide) ?_
          exact w_lose_60 X hret hf hM (lv_sub hl [0] rfl)
      · replace hf := m_ifT hf cc1
        refine lv_iconst (v := (2 : Int32)) hx hb dX12_lose_23 (by decide) ?_
        refine lv_goto (tgt := 60) hx hb dX12_lose_24 (by decide) ?_
        exact w_lose_60 X hret hf hM (lv_sub hl [0] rfl)
    · replace hf := m_ifT hf cc1
      refine lv_iconst (v := (1 : Int32)) hx hb dX12_lose_15 (by decide) ?_
      refine lv_goto (tgt := 60) hx hb dX12_lose_16 (by decide) ?_
      exact w_lose_60 X hret hf hM (lv_sub hl [0] rfl)
  · replace hf := m_ifT hf cc1
    refine lv_iconst (v := (3 : Int32)) hx hb dX12_lose_5 (by decide) ?_
    refine lv_goto (tgt := 60) hx hb dX12_lose_6 (by decide) ?_
    exact w_lose_60 X hret hf hM (lv_sub hl [0] rfl)
def f_lose (x1 : Int32) (I : Nat → Int32) (A : Nat → Nat → Int32) : Option (Int32 × MS) := f_lose_0 x1 I A
theorem c_lose {l : Launch} {D : va_G} {cy ci : ClassId} {h : Nat → Nat} {x1 : Int32} {I : Nat → Int32} {A : Nat → Nat → Int32} {o : Int32 × MS} (hf : f_lose x1 I A = some o) : mMv l yX12_lose wsX12_lose ({ frames := 0, cells := 0, slots := 0, locals := 0 } : Room) [.ref (h 0), .int x1] D cy ci h I A o :=
  m_entryV (cc := cX12_lose) (maxL := 3) (by decide) rfl rfl (Nat.le_of_ble_eq_true rfl) (fun p e s m args below meth c A0 Q H locs ls X hret hM hl => w_lose_0 X hret hf hM (lv_sub hl [0, 1] rfl))
theorem hd_step : yX12_step.cls ≠ "java/lang/invoke/MethodHandle" ∧ yX12_step.cls ≠ "java/lang/invoke/VarHandle" ∧ (parseMethodDescriptor yX12_step.desc).map (fun d => d.parameters.length) = some 3 := by decide +kernel
def f_step_48 (t0 : Int32) (I : Nat → Int32) (A : Nat → Nat → Int32) : Option (Int32 × MS) :=
  some (t0, (I, A))

set_option maxRecDepth 100000 in
set_option maxHeartbeats 4000000 in
theorem w_step_48 {p : Program} {l : Launch} {e : Env} {s : State} {m : MethodId} {args : Array Value} {below : List Frame} {meth : Method} {c : Code} {Q : State → Prop} {D : va_G} {cy ci : ClassId} {h : Nat → Nat} {A0 : Nat → Prop} {o : Int32 × MS} (X : CallFix p m c cX12_step 5 s args wsX12_step RX12) (hret : mRi p l e ({ frames := 0, cells := 0, slots := 0, locals := 0 } : Room) s m args below meth c Q cX12_step D cy ci h A0 .int o) {t0 : Int32} {I : Nat → Int32} {A : Nat → Nat → Int32} {H : Heap} {locs : List Loc} {ls : Array Slot} (hf : f_step_48 t0 I A = some o) (hM : mH D cy ci h A0 s H locs I A) (hl : lv_has ls 5 []) : W p l e ({ frames := 0, cells := 0, slots := 0, locals := 0 } : Room) s m args below meth c H locs 0 0 Q (F0 m 48 ls [.int t0]) := by
  obtain ⟨hx, hb, hml, hown, hts⟩ := id X
  unfold f_step_48 at hf
  cases hf
  exact hret H locs _ ls hM rfl dX12_step_48
def f_step_47 (I : Nat → Int32) (A : Nat → Nat → Int32) : Option (Int32 × MS) :=
  f_step_48 (-1 : Int32) I A

set_option maxRecDepth 100000 in
set_option maxHeartbeats 4000000 in
theorem w_step_47 {p : Program} {l : Launch} {e : Env} {s : State} {m : MethodId} {args : Array Value} {below : List Frame} {meth : Method} {c : Code} {Q : State → Prop} {D : va_G} {cy ci : ClassId} {h : Nat → Nat} {A0 : Nat → Prop} {o : Int32 × MS} (X : CallFix p m c cX12_step 5 s args wsX12_step RX12) (hret : mRi p l e ({ frames := 0, cells := 0, slots := 0, locals := 0 } : Room) s m args below meth c Q cX12_step D cy ci h A0 .int o) {I : Nat → Int32} {A : Nat → Nat → Int32} {H : Heap} {locs : List Loc} {ls : Array Slot} (hf : f_step_47  I A = some o) (hM : mH D cy ci h A0 s H locs I A) (hl : lv_has ls 5 []) : W p l e ({ frames := 0, cells := 0, slots := 0, locals := 0 } : Room) s m args below meth c H locs 0 0 Q (F0 m 47 ls []) := by
  obtain ⟨hx, hb, hml, hown, hts⟩ := id X
  unfold f_step_47 at hf
  refine lv_iconst (v := (-1 : Int32)) hx hb dX12_step_47 (by decide) ?_
  exact w_step_48 X hret hf hM (lv_sub hl [] rfl)
def f_step_0 (x0 : Int32) (x1 : Int32) (x2 : Int32) (I : Nat → Int32) (A : Nat → Nat → Int32) : Option (Int32 × MS) :=
  m_bnd (x0 - x0 / (8 : Int32) * (8 : Int32)) (fun v1 =>
  m_bnd (v1 + x1) (fun v2 =>
  m_bnd (x0 / (8 : Int32)) (fun v3 =>
  m_bnd (v3 + x2) (fun v4 =>
  m_if (v2 < 0) (
  f_step_47  I A
  ) (
  m_if ((8 : Int32) ≤ v2) (
  f_step_47  I A
  ) (
  m_if (v4 < 0) (
  f_step_47  I A
  ) (
  m_if ((8 : Int32) ≤ v4) (
  f_step_47  I A
  ) (
  m_bnd ((8 : Int32) * v4) (fun v5 =>
  m_bnd (v5 + v2) (fun v6 =>
  f_step_48 v6 I A))
  )
  )
  )
  )))))

set_option maxRecDepth 100000 in
set_option maxHeartbeats 4000000 in
theorem w_step_0 {p : Program} {l : Launch} {e : Env} {s : State} {m : MethodId} {args : Array Value} {below : List Frame} {meth : Method} {c : Code} {Q : State → Prop} {D : va_G} {cy ci : ClassId} {h : Nat → Nat} {A0 : Nat → Prop} {o : Int32 × MS} (X : CallFix p m c cX12_step 5 s args wsX12_step RX12) (hret : mRi p l e ({ frames := 0, cells := 0, slots := 0, locals := 0 } : Room) s m args below meth c Q cX12_step D cy ci h A0 .int o) {x0 : Int32} {x1 : Int32} {x2 : Int32} {I : Nat → Int32} {A : Nat → Nat → Int32} {H : Heap} {locs : List Loc} {ls : Array Slot} (hf : f_step_0 x0 x1 x2 I A = some o) (hM : mH D cy ci h A0 s H locs I A) (hl : lv_has ls 5 [(0, .int x0), (1, .int x1), (2, .int x2)]) : W p l e ({ frames := 0, cells := 0, slots := 0, locals := 0 } : Room) s m args below meth c H locs 0 0 Q (F0 m 0 ls []) := by
  obtain ⟨hx, hb, hml, hown, hts⟩ := id X
  unfold f_step_0 at hf
  refine lv_iload_n hx hb dX12_step_0 rfl (lv_at hl 0 rfl) ?_
  refine lv_bipush (v := (8 : Int32)) hx hb dX12_step_1 (by decide) ?_
  refine lv_irem hx hb dX12_step_3 (by decide) ?_
  obtain ⟨v1, ev, hf⟩ := m_bndE hf
  refine m_top ev ?_
  clear ev
  refine lv_iload_n hx hb dX12_step_4 rfl (lv_at hl 1 rfl) ?_
  refine lv_iadd hx hb dX12_step_5 ?_
  obtain ⟨v2, ev, hf⟩ := m_bndE hf
  refine m_top ev ?_
  clear ev
  refine lv_istore_n (lv' := [(3, .int v2), (0, .int x0), (1, .int x1), (2, .int x2)]) hx hb dX12_step_6 rfl hl (by decide) rfl (fun ls hl => ?_)
  refine lv_iload_n hx hb dX12_step_7 rfl (lv_at hl 1 rfl) ?_
  refine lv_bipush (v := (8 : Int32)) hx hb dX12_step_8 (by decide) ?_
  refine lv_idiv hx hb dX12_step_10 (by decide) ?_
  obtain ⟨v3, ev, hf⟩ := m_bndE hf
  refine m_top ev ?_
  clear ev
  refine lv_iload_n hx hb dX12_step_11 rfl (lv_at hl 3 rfl) ?_
  refine lv_iadd hx hb dX12_step_12 ?_
  obtain ⟨v4, ev, hf⟩ := m_bndE hf
  refine m_top ev ?_
  clear ev
  refine lv_istore (lv' := [(4, .int v4), (3, .int v2), (0, .int x0), (1, .int x1), (2, .int x2)]) hx hb dX12_step_13 hl (by decide) rfl (fun ls hl => ?_)
  refine lv_iload_n hx hb dX12_step_15 rfl (lv_at hl 1 rfl) ?_
  refine lv_if_lt (tgt := 47) hx hb dX12_step_16 (by decide) (fun cc1 => ?_) (fun cc1 => ?_)
  · replace hf := m_ifT hf cc1
    exact w_step_47 X hret hf hM (lv_sub hl [] rfl)
  · replace hf := m_ifF hf cc1
    refine lv_iload_n hx hb dX12_step_19 rfl (lv_at hl 1 rfl) ?_
    refine lv_bipush (v := (8 : Int32)) hx hb dX12_step_20 (by decide) ?_
    refine lv_icmp_ge (tgt := 47) hx hb dX12_step_22 (by decide) (fun cc1 => ?_) (fun cc1 => ?_)
    · replace hf := m_ifT hf cc1
      exact w_step_47 X hret hf hM (lv_sub hl [] rfl)
    · replace hf := m_ifF hf cc1
      refine lv_iload hx hb dX12_step_25 (lv_at hl 0 rfl) ?_
      refine lv_if_lt (tgt := 47) hx hb dX12_step_27 (by decide) (fun cc1 => ?_) (fun cc1 => ?_)
      · replace hf := m_ifT hf cc1
        exact w_step_47 X hret hf hM (lv_sub hl [] rfl)
      · replace hf := m_ifF hf cc1
        refine lv_iload hx hb dX12_step_30 (lv_at hl 0 rfl) ?_
        refine lv_bipush (v := (8 : Int32)) hx hb dX12_step_32 (by decide) ?_
        refine lv_icmp_ge (tgt := 47) hx hb dX12_step_34 (by decide) (fun cc1 => ?_) (fun cc1 => ?_)
        · replace hf := m_ifT hf cc1
          exact w_step_47 X hret hf hM (lv_sub hl [] rfl)
        · replace hf := m_ifF hf cc1
          refine lv_bipush (v := (8 : Int32)) hx hb dX12_step_37 (by decide) ?_
          refine lv_iload hx hb dX12_step_39 (lv_at hl 0 rfl) ?_
          refine lv_imul hx hb dX12_step_41 ?_
          obtain ⟨v5, ev, hf⟩ := m_bndE hf
          refine m_top ev ?_
          clear ev
          refine lv_iload_n hx hb dX12_step_42 rfl (lv_at hl 1 rfl) ?_
          refine lv_iadd hx hb dX12_step_43 ?_
          obtain ⟨v6, ev, hf⟩ := m_bndE hf
          refine m_top ev ?_
          clear ev
          refine lv_goto (tgt := 48) hx hb dX12_step_44 (by decide) ?_
          exact w_step_48 X hret hf hM (lv_sub hl [] rfl)
def f_step (x0 : Int32) (x1 : Int32) (x2 : Int32) (I : Nat → Int32) (A : Nat → Nat → Int32) : Option (Int32 × MS) := f_step_0 x0 x1 x2 I A
theorem c_step {l : Launch} {D : va_G} {cy ci : ClassId} {h : Nat → Nat} {x0 : Int32} {x1 : Int32} {x2 : Int32} {I : Nat → Int32} {A : Nat → Nat → Int32} {o : Int32 × MS} (hf : f_step x0 x1 x2 I A = some o) : mMi l yX12_step wsX12_step ({ frames := 0, cells := 0, slots := 0, locals := 0 } : Room) [.int x0, .int x1, .int x2] D cy ci h I A o :=
  m_entryI (cc := cX12_step) (maxL := 5) (by decide) rfl rfl (Nat.le_of_ble_eq_true rfl) (fun p e s m args below meth c A0 Q H locs ls X hret hM hl => w_step_0 X hret hf hM (lv_sub hl [0, 1, 2] rfl))
theorem hw_stands : ∀ w ∈ wsX120, w ∈ wsX12_stands := by decide +kernel
theorem fl_stands_24 : Cond.fieldLink RX12 70 "MoveTextsModel" "men" "[I" ∈ wsX12_stands := by decide +kernel
theorem hd_stands : yX12_stands.cls = RX12 ∧ yX12_stands.cls ≠ "java/lang/invoke/MethodHandle" ∧ yX12_stands.cls ≠ "java/lang/invoke/VarHandle" ∧ (parseMethodDescriptor yX12_stands.desc).map (fun d => d.parameters.length) = some 2 := by decide +kernel
def f_stands_19 (t0 : Int32) (I : Nat → Int32) (A : Nat → Nat → Int32) : Option (Int32 × MS) :=
  m_chk (vp_nar .boolean t0 = t0) (some (t0, (I, A)))

set_option maxRecDepth 100000 in
set_option maxHeartbeats 4000000 in
theorem w_stands_19 {p : Program} {l : Launch} {e : Env} {s : State} {m : MethodId} {args : Array Value} {below : List Frame} {meth : Method} {c : Code} {Q : State → Prop} {D : va_G} {cy ci : ClassId} {h : Nat → Nat} {A0 : Nat → Prop} {o : Int32 × MS} (X : CallFix p m c cX12_stands 3 s args wsX12_stands RX12) (hret : mRi p l e ({ frames := 0, cells := 0, slots := 0, locals := 0 } : Room) s m args below meth c Q cX12_stands D cy ci h A0 .boolean o) {t0 : Int32} {I : Nat → Int32} {A : Nat → Nat → Int32} {H : Heap} {locs : List Loc} {ls : Array Slot} (hf : f_stands_19 t0 I A = some o) (hM : mH D cy ci h A0 s H locs I A) (hl : lv_has ls 3 []) : W p l e ({ frames := 0, cells := 0, slots := 0, locals := 0 } : Room) s m args below meth c H locs 0 0 Q (F0 m 19 ls [.int t0]) := by
  obtain ⟨hx, hb, hml, hown, hts⟩ := id X
  unfold f_stands_19 at hf
  obtain ⟨cd, hf⟩ := m_chkE hf
  cases hf
  exact hret H locs _ ls hM (m_nb cd) dX12_stands_19
def f_stands_18 (I : Nat → Int32) (A : Nat → Nat → Int32) : Option (Int32 × MS) :=
  f_stands_19 (0 : Int32) I A

set_option maxRecDepth 100000 in
set_option maxHeartbeats 4000000 in
theorem w_stands_18 {p : Program} {l : Launch} {e : Env} {s : State} {m : MethodId} {args : Array Value} {below : List Frame} {meth : Method} {c : Code} {Q : State → Prop} {D : va_G} {cy ci : ClassId} {h : Nat → Nat} {A0 : Nat → Prop} {o : Int32 × MS} (X : CallFix p m c cX12_stands 3 s args wsX12_stands RX12) (hret : mRi p l e ({ frames := 0, cells := 0, slots := 0, locals := 0 } : Room) s m args below meth c Q cX12_stands D cy ci h A0 .boolean o) {I : Nat → Int32} {A : Nat → Nat → Int32} {H : Heap} {locs : List Loc} {ls : Array Slot} (hf : f_stands_18  I A = some o) (hM : mH D cy ci h A0 s H locs I A) (hl : lv_has ls 3 []) : W p l e ({ frames := 0, cells := 0, slots := 0, locals := 0 } : Room) s m args below meth c H locs 0 0 Q (F0 m 18 ls []) := by
  obtain ⟨hx, hb, hml, hown, hts⟩ := id X
  unfold f_stands_18 at hf
  refine lv_iconst (v := (0 : Int32)) hx hb dX12_stands_18 (by decide) ?_
  exact w_stands_19 X hret hf hM (lv_sub hl [] rfl)
def f_stands_0 (x1 : Int32) (x2 : Int32) (I : Nat → Int32) (A : Nat → Nat → Int32) : Option (Int32 × MS) :=
  m_if (x1 < 0) (
  f_stands_18  I A
  ) (
  m_chk (¬ (x1 < 0 ∨ 64 ≤ (x1).toNatClampNeg)) (
  m_bnd (A 24 (x1).toNatClampNeg) (fun v1 =>
  m_if (v1 = x2) (
  f_stands_19 (1 : Int32) I A
  ) (
  f_stands_18  I A
  )))
  )

set_option maxRecDepth 100000 in
set_option maxHeartbeats 4000000 in
theorem w_stands_0 {p : Program} {l : Launch} {e : Env} {s : State} {m : MethodId} {args : Array Value} {below : List Frame} {meth : Method} {c : Code} {Q : State → Prop} {D : va_G} {cy ci : ClassId} {h : Nat → Nat} {A0 : Nat → Prop} {o : Int32 × MS} (X : CallFix p m c cX12_stands 3 s args wsX12_stands RX12) (hret : mRi p l e ({ frames := 0, cells := 0, slots := 0, locals := 0 } : Room) s m args below meth c Q cX12_stands D cy ci h A0 .boolean o) {x1 : Int32} {x2 : Int32} {I : Nat → Int32} {A : Nat → Nat → Int32} {H : Heap} {locs : List Loc} {ls : Array Slot} (hf : f_stands_0 x1 x2 I A = some o) (hM : mH D cy ci h A0 s H locs I A) (hl : lv_has ls 3 [(0, .ref (h 0)), (1, .int x1), (2, .int x2)]) : W p l e ({ frames := 0, cells := 0, slots := 0, locals := 0 } : Room) s m args below meth c H locs 0 0 Q (F0 m 0 ls []) := by
  obtain ⟨hx, hb, hml, hown, hts⟩ := id X
  unfold f_stands_0 at hf
  refine lv_iload_n hx hb dX12_stands_0 rfl (lv_at hl 1 rfl) ?_
  refine lv_if_lt (tgt := 18) hx hb dX12_stands_1 (by decide) (fun cc1 => ?_) (fun cc1 => ?_)
  · replace hf := m_ifT hf cc1
    exact w_stands_18 X hret hf hM (lv_sub hl [] rfl)
  · replace hf := m_ifF hf cc1
    refine lv_aload_n hx hb dX12_stands_4 rfl (lv_at hl 0 rfl) ?_
    refine m_get (v := .ref (h 24)) X hw_stands hM 24 (by decide) fl_stands_24 rfl dX12_stands_5 ?_
    refine lv_iload_n hx hb dX12_stands_8 rfl (lv_at hl 1 rfl) ?_
    obtain ⟨cd, hf⟩ := m_chkE hf
    refine m_iald X hM 24 20 64 rfl cd dX12_stands_9 ?_
    clear cd
    obtain ⟨v1, ev, hf⟩ := m_bndE hf
    refine m_top ev ?_
    clear ev
    refine lv_iload_n hx hb dX12_stands_10 rfl (lv_at hl 2 rfl) ?_
    refine lv_icmp_ne (tgt := 18) hx hb dX12_stands_11 (by decide) (fun cc1 => ?_) (fun cc1 => ?_)
    · replace hf := m_ifF hf cc1
      exact w_stands_18 X hret hf hM (lv_sub hl [] rfl)
    · replace hf := m_ifT hf cc1
      refine lv_iconst (v := (1 : Int32)) hx hb dX12_stands_14 (by decide) ?_
      refine lv_goto (tgt := 19) hx hb dX12_stands_15 (by decide) ?_
      exact w_stands_19 X hret hf hM (lv_sub hl [] rfl)
def f_stands (x1 : Int32) (x2 : Int32) (I : Nat → Int32) (A : Nat → Nat → Int32) : Option (Int32 × MS) := f_stands_0 x1 x2 I A
theorem c_stands {l : Launch} {D : va_G} {cy ci : ClassId} {h : Nat → Nat} {x1 : Int32} {x2 : Int32} {I : Nat → Int32} {A : Nat → Nat → Int32} {o : Int32 × MS} (hf : f_stands x1 x2 I A = some o) : mMi l yX12_stands wsX12_stands ({ frames := 0, cells := 0, slots := 0, locals := 0 } : Room) [.ref (h 0), .int x1, .int x2] D cy ci h I A o :=
  m_entryI (cc := cX12_stands) (maxL := 3) (by decide) rfl rfl (Nat.le_of_ble_eq_true rfl) (fun p e s m args below meth c A0 Q H locs ls X hret hM hl => w_stands_0 X hret hf hM (lv_sub hl [0, 1, 2] rfl))
theorem hw_make : ∀ w ∈ wsX120, w ∈ wsX12_make := by decide +kernel
theorem fl_make_24 : Cond.fieldLink RX12 70 "MoveTextsModel" "men" "[I" ∈ wsX12_make := by decide +kernel
theorem fl_make_25 : Cond.fieldLink RX12 121 "MoveTextsModel" "side" "I" ∈ wsX12_make := by decide +kernel
theorem fl_make_27 : Cond.fieldLink RX12 127 "MoveTextsModel" "passed" "I" ∈ wsX12_make := by decide +kernel
theorem fl_make_28 : Cond.fieldLink RX12 130 "MoveTextsModel" "clock" "I" ∈ wsX12_make := by decide +kernel
theorem fl_make_29 : Cond.fieldLink RX12 133 "MoveTextsModel" "number" "I" ∈ wsX12_make := by decide +kernel
theorem hd_make : yX12_make.cls = RX12 ∧ yX12_make.cls ≠ "java/lang/invoke/MethodHandle" ∧ yX12_make.cls ≠ "java/lang/invoke/VarHandle" ∧ (parseMethodDescriptor yX12_make.desc).map (fun d => d.parameters.length) = some 1 := by decide +kernel
def f_make_319 (I : Nat → Int32) (A : Nat → Nat → Int32) : Option (Int32 × MS) :=
  m_bnd ((I 29) + (I 25)) (fun v1 =>
  m_bnd (upd I 29 v1) (fun I2 =>
  m_bnd ((1 : Int32) - (I2 25)) (fun v3 =>
  m_bnd (upd I2 25 v3) (fun I4 =>
  some (0, (I4, A))))))

set_option maxRecDepth 100000 in
set_option maxHeartbeats 4000000 in
theorem w_make_319 {p : Program} {l : Launch} {e : Env} {s : State} {m : MethodId} {args : Array Value} {below : List Frame} {meth : Method} {c : Code} {Q : State → Prop} {D : va_G} {cy ci : ClassId} {h : Nat → Nat} {A0 : Nat → Prop} {o : Int32 × MS} (X : CallFix p m c cX12_make 8 s args wsX12_make RX12) (hret : mRv p l e ({ frames := 2, cells := 0, slots := 0, locals := 43 } : Room) s m args below meth c Q cX12_make D cy ci h A0 o) {I : Nat → Int32} {A : Nat → Nat → Int32} {H : Heap} {locs : List Loc} {ls : Array Slot} (hf : f_make_319  I A = some o) (hM : mH D cy ci h A0 s H locs I A) (hl : lv_has ls 8 [(0, .ref (h 0))]) : W p l e ({ frames := 2, cells := 0, slots := 0, locals := 43 } : Room) s m args below meth c H locs 0 0 Q (F0 m 319 ls []) := by
  obtain ⟨hx, hb, hml, hown, hts⟩ := id X
  unfold f_make_319 at hf
  refine lv_aload_n hx hb dX12_make_319 rfl (lv_at hl 0 rfl) ?_
  refine lv_aload_n hx hb dX12_make_320 rfl (lv_at hl 0 rfl) ?_
  refine m_get (v := .int (I 29)) X hw_make hM 29 (by decide) fl_make_29 rfl dX12_make_321 ?_
  refine lv_aload_n hx hb dX12_make_324 rfl (lv_at hl 0 rfl) ?_
  refine m_get (v := .int (I 25)) X hw_make hM 25 (by decide) fl_make_25 rfl dX12_make_325 ?_
  refine lv_iadd hx hb dX12_make_328 ?_
  obtain ⟨v1, ev, hf⟩ := m_bndE hf
  refine m_top ev ?_
  clear ev
  refine m_put X hw_make hM 29 (by decide) fl_make_29 mi_29 rfl (tyX12_ok 29 (by decide)) dX12_make_329 (fun H locs hM => ?_)
  obtain ⟨I2, ev, hf⟩ := m_bndE hf
  replace hM := m_hI hM ev
  clear ev
  refine lv_aload_n hx hb dX12_make_332 rfl (lv_at hl 0 rfl) ?_
  refine lv_iconst (v := (1 : Int32)) hx hb dX12_make_333 (by decide) ?_
  refine lv_aload_n hx hb dX12_make_334 rfl (lv_at hl 0 rfl) ?_
  refine m_get (v := .int (I2 25)) X hw_make hM 25 (by decide) fl_make_25 rfl dX12_make_335 ?_
  refine lv_isub hx hb dX12_make_338 ?_
  obtain ⟨v3, ev, hf⟩ := m_bndE hf
  refine m_top ev ?_
  clear ev
  refine m_put X hw_make hM 25 (by decide) fl_make_25 mi_25 rfl (tyX12_ok 25 (by decide)) dX12_make_339 (fun H locs hM => ?_)
  obtain ⟨I4, ev, hf⟩ := m_bndE hf
  replace hM := m_hI hM ev
  clear ev
  cases hf
  exact hret H locs _ ls hM dX12_make_342
def f_make_316 (t0 : Int32) (I : Nat → Int32) (A : Nat → Nat → Int32) : Option (Int32 × MS) :=
  m_bnd (upd I 27 t0) (fun I1 =>
  f_make_319  I1 A)

set_option maxRecDepth 100000 in
set_option maxHeartbeats 4000000 in
theorem w_make_316 {p : Program} {l : Launch} {e : Env} {s : State} {m : MethodId} {args : Array Value} {below : List Frame} {meth : Method} {c : Code} {Q : State → Prop} {D : va_G} {cy ci : ClassId} {h : Nat → Nat} {A0 : Nat → Prop} {o : Int32 × MS} (X : CallFix p m c cX12_make 8 s args wsX12_make RX12) (hret : mRv p l e ({ frames := 2, cells := 0, slots := 0, locals := 43 } : Room) s m args below meth c Q cX12_make D cy ci h A0 o) {t0 : Int32} {I : Nat → Int32} {A : Nat → Nat → Int32} {H : Heap} {locs : List Loc} {ls : Array Slot} (hf : f_make_316 t0 I A = some o) (hM : mH D cy ci h A0 s H locs I A) (hl : lv_has ls 8 [(0, .ref (h 0))]) : W p l e ({ frames := 2, cells := 0, slots := 0, locals := 43 } : Room) s m args below meth c H locs 0 0 Q (F0 m 316 ls [.int t0, .ref (h 0)]) := by
  obtain ⟨hx, hb, hml, hown, hts⟩ := id X
  unfold f_make_316 at hf
  refine m_put X hw_make hM 27 (by decide) fl_make_27 mi_27 rfl (tyX12_ok 27 (by decide)) dX12_make_316 (fun H locs hM => ?_)
  obtain ⟨I1, ev, hf⟩ := m_bndE hf
  replace hM := m_hI hM ev
  clear ev
  exact w_make_319 X hret hf hM (lv_sub hl [0] rfl)
def f_make_307 (x2 : Int32) (x3 : Int32) (I : Nat → Int32) (A : Nat → Nat → Int32) : Option (Int32 × MS) :=
  m_bnd (x2 + x3) (fun v1 =>
  m_bnd (v1 / (2 : Int32)) (fun v2 =>
  f_make_316 v2 I A))

set_option maxRecDepth 100000 in
set_option maxHeartbeats 4000000 in
theorem w_make_307 {p : Program} {l : Launch} {e : Env} {s : State} {m : MethodId} {args : Array Value} {below : List Frame} {meth : Method} {c : Code} {Q : State → Prop} {D : va_G} {cy ci : ClassId} {h : Nat → Nat} {A0 : Nat → Prop} {o : Int32 × MS} (X : CallFix p m c cX12_make 8 s args wsX12_make RX12) (hret : mRv p l e ({ frames := 2, cells := 0, slots := 0, locals := 43 } : Room) s m args below meth c Q cX12_make D cy ci h A0 o) {x2 : Int32} {x3 : Int32} {I : Nat → Int32} {A : Nat → Nat → Int32} {H : Heap} {locs : List Loc} {ls : Array Slot} (hf : f_make_307 x2 x3 I A = some o) (hM : mH D cy ci h A0 s H locs I A) (hl : lv_has ls 8 [(0, .ref (h 0)), (2, .int x2), (3, .int x3)]) : W p l e ({ frames := 2, cells := 0, slots := 0, locals := 43 } : Room) s m args below meth c H locs 0 0 Q (F0 m 307 ls [.ref (h 0)]) := by
  obtain ⟨hx, hb, hml, hown, hts⟩ := id X
  unfold f_make_307 at hf
  refine lv_iload_n hx hb dX12_make_307 rfl (lv_at hl 1 rfl) ?_
  refine lv_iload_n hx hb dX12_make_308 rfl (lv_at hl 2 rfl) ?_
  refine lv_iadd hx hb dX12_make_309 ?_
  obtain ⟨v1, ev, hf⟩ := m_bndE hf
  refine m_top ev ?_
  clear ev
  refine lv_iconst (v := (2 : Int32)) hx hb dX12_make_310 (by decide) ?_
  refine lv_idiv hx hb dX12_make_311 (by decide) ?_
  obtain ⟨v2, ev, hf⟩ := m_bndE hf
  refine m_top ev ?_
  clear ev
  refine lv_goto (tgt := 316) hx hb dX12_make_312 (by decide) ?_
  exact w_make_316 X hret hf hM (lv_sub hl [0] rfl)
def f_make_263 (x2 : Int32) (x3 : Int32) (I : Nat → Int32) (A : Nat → Nat → Int32) : Option (Int32 × MS) :=
  m_bnd ((1 : Int32) - (I 25)) (fun v1 =>
  m_bnd ((8 : Int32) * v1) (fun v2 =>
  m_bnd ((1 : Int32) + v2) (fun v3 =>
  m_cl (f_step x3 (-1 : Int32) (0 : Int32) I A) (fun r4 Ic4 Ac4 =>
  m_cl (f_stands r4 v3 Ic4 Ac4) (fun r5 Ic5 Ac5 =>
  m_if (r5 = 0) (
  m_cl (f_step x3 (1 : Int32) (0 : Int32) Ic5 Ac5) (fun r6 Ic6 Ac6 =>
  m_cl (f_stands r6 v3 Ic6 Ac6) (fun r7 Ic7 Ac7 =>
  m_if (r7 = 0) (
  f_make_316 (-1 : Int32) Ic7 Ac7
  ) (
  f_make_307 x2 x3 Ic7 Ac7
  )))
  ) (
  f_make_307 x2 x3 Ic5 Ac5
  ))))))

set_option maxRecDepth 100000 in
set_option maxHeartbeats 4000000 in
theorem w_make_263 {p : Program} {l : Launch} {e : Env} {s : State} {m : MethodId} {args : Array Value} {below : List Frame} {meth : Method} {c : Code} {Q : State → Prop} {D : va_G} {cy ci : ClassId} {h : Nat → Nat} {A0 : Nat → Prop} {o : Int32 × MS} (X : CallFix p m c cX12_make 8 s args wsX12_make RX12) (hret : mRv p l e ({ frames := 2, cells := 0, slots := 0, locals := 43 } : Room) s m args below meth c Q cX12_make D cy ci h A0 o) {x2 : Int32} {x3 : Int32} {I : Nat → Int32} {A : Nat → Nat → Int32} {H : Heap} {locs : List Loc} {ls : Array Slot} (hf : f_make_263 x2 x3 I A = some o) (hM : mH D cy ci h A0 s H locs I A) (hl : lv_has ls 8 [(0, .ref (h 0)), (2, .int x2), (3, .int x3)]) : W p l e ({ frames := 2, cells := 0, slots := 0, locals := 43 } : Room) s m args below meth c H locs 0 0 Q (F0 m 263 ls []) := by
  obtain ⟨hx, hb, hml, hown, hts⟩ := id X
  unfold f_make_263 at hf
  refine lv_iconst (v := (1 : Int32)) hx hb dX12_make_263 (by decide) ?_
  refine lv_bipush (v := (8 : Int32)) hx hb dX12_make_264 (by decide) ?_
  refine lv_iconst (v := (1 : Int32)) hx hb dX12_make_266 (by decide) ?_
  refine lv_aload_n hx hb dX12_make_267 rfl (lv_at hl 0 rfl) ?_
  refine m_get (v := .int (I 25)) X hw_make hM 25 (by decide) fl_make_25 rfl dX12_make_268 ?_
  refine lv_isub hx hb dX12_make_271 ?_
  obtain ⟨v1, ev, hf⟩ := m_bndE hf
  refine m_top ev ?_
  clear ev
  refine lv_imul hx hb dX12_make_272 ?_
  obtain ⟨v2, ev, hf⟩ := m_bndE hf
  refine m_top ev ?_
  clear ev
  refine lv_iadd hx hb dX12_make_273 ?_
  obtain ⟨v3, ev, hf⟩ := m_bndE hf
  refine m_top ev ?_
  clear ev
  refine lv_istore (lv' := [(7, .int v3), (0, .ref (h 0)), (2, .int x2), (3, .int x3)]) hx hb dX12_make_274 hl (by decide) rfl (fun ls hl => ?_)
  refine lv_aload_n hx hb dX12_make_276 rfl (lv_at hl 1 rfl) ?_
  refine lv_aload_n hx hb dX12_make_277 rfl (lv_at hl 1 rfl) ?_
  refine lv_iload_n hx hb dX12_make_278 rfl (lv_at hl 3 rfl) ?_
  refine lv_iconst (v := (-1 : Int32)) hx hb dX12_make_279 (by decide) ?_
  refine lv_iconst (v := (0 : Int32)) hx hb dX12_make_280 (by decide) ?_
  obtain ⟨o4, ho, hf⟩ := m_clE hf
  refine m_callSi X hM (c_step ho) gX12_make_X12_step rfl ⟨rfl, rfl⟩ hd_step ⟨Nat.le_of_ble_eq_true rfl, Nat.le_of_ble_eq_true rfl⟩ rfl hl.1 rfl (Nat.le_of_ble_eq_true rfl) dX12_make_281 (fun H locs hM => ?_)
  clear ho
  refine lv_iload hx hb dX12_make_284 (lv_at hl 0 rfl) ?_
  obtain ⟨o5, ho, hf⟩ := m_clE hf
  refine m_callVi X hM (c_stands ho) gX12_make_X12_stands rfl ⟨rfl, rfl⟩ hd_stands ⟨Nat.le_of_ble_eq_true rfl, Nat.le_of_ble_eq_true rfl⟩ rfl hl.1 rfl (Nat.le_of_ble_eq_true rfl) dX12_make_286 (fun H locs hM => ?_)
  clear ho
  refine lv_if_ne (tgt := 307) hx hb dX12_make_289 (by decide) (fun cc1 => ?_) (fun cc1 => ?_)
  · replace hf := m_ifF hf cc1
    exact w_make_307 X hret hf hM (lv_sub hl [1, 2, 3] rfl)
  · replace hf := m_ifT hf cc1
    refine lv_aload_n hx hb dX12_make_292 rfl (lv_at hl 1 rfl) ?_
    refine lv_iload_n hx hb dX12_make_293 rfl (lv_at hl 3 rfl) ?_
    refine lv_iconst (v := (1 : Int32)) hx hb dX12_make_294 (by decide) ?_
    refine lv_iconst (v := (0 : Int32)) hx hb dX12_make_295 (by decide) ?_
    obtain ⟨o6, ho, hf⟩ := m_clE hf
    refine m_callSi X hM (c_step ho) gX12_make_X12_step rfl ⟨rfl, rfl⟩ hd_step ⟨Nat.le_of_ble_eq_true rfl, Nat.le_of_ble_eq_true rfl⟩ rfl hl.1 rfl (Nat.le_of_ble_eq_true rfl) dX12_make_296 (fun H locs hM => ?_)
    clear ho
    refine lv_iload hx hb dX12_make_299 (lv_at hl 0 rfl) ?_
    obtain ⟨o7, ho, hf⟩ := m_clE hf
    refine m_callVi X hM (c_stands ho) gX12_make_X12_stands rfl ⟨rfl, rfl⟩ hd_stands ⟨Nat.le_of_ble_eq_true rfl, Nat.le_of_ble_eq_true rfl⟩ rfl hl.1 rfl (Nat.le_of_ble_eq_true rfl) dX12_make_301 (fun H locs hM => ?_)
    clear ho
    refine lv_if_eq (tgt := 315) hx hb dX12_make_304 (by decide) (fun cc1 => ?_) (fun cc1 => ?_)
    · replace hf := m_ifT hf cc1
      refine lv_iconst (v := (-1 : Int32)) hx hb dX12_make_315 (by decide) ?_
      exact w_make_316 X hret hf hM (lv_sub hl [1] rfl)
    · replace hf := m_ifF hf cc1
      exact w_make_307 X hret hf hM (lv_sub hl [1, 2, 3] rfl)
def f_make_226 (x2 : Int32) (x3 : Int32) (x6 : Int32) (t0 : Int32) (t1 : Int32) (I : Nat → Int32) (A : Nat → Nat → Int32) : Option (Int32 × MS) :=
  m_chk (¬ (t1 < 0 ∨ 64 ≤ (t1).toNatClampNeg)) (
  m_bnd (va_up A 24 (upd (A 24) (t1).toNatClampNeg t0)) (fun A1 =>
  m_cl (f_lose x2 I A1) (fun r2 Ic2 Ac2 =>
  m_cl (f_lose x3 Ic2 Ac2) (fun r3 Ic3 Ac3 =>
  m_bnd (upd Ic3 27 (-1 : Int32)) (fun I4 =>
  m_if (x6 = 0) (
  f_make_319  I4 Ac3
  ) (
  m_bnd (x2 + (16 : Int32)) (fun v5 =>
  m_if (x3 = v5) (
  f_make_263 x2 x3 I4 Ac3
  ) (
  m_bnd (x2 - (16 : Int32)) (fun v6 =>
  m_if (x3 = v6) (
  f_make_263 x2 x3 I4 Ac3
  ) (
  f_make_319  I4 Ac3
  ))
  ))
  ))))))

set_option maxRecDepth 100000 in
set_option maxHeartbeats 4000000 in
theorem w_make_226 {p : Program} {l : Launch} {e : Env} {s : State} {m : MethodId} {args : Array Value} {below : List Frame} {meth : Method} {c : Code} {Q : State → Prop} {D : va_G} {cy ci : ClassId} {h : Nat → Nat} {A0 : Nat → Prop} {o : Int32 × MS} (X : CallFix p m c cX12_make 8 s args wsX12_make RX12) (hret : mRv p l e ({ frames := 2, cells := 0, slots := 0, locals := 43 } : Room) s m args below meth c Q cX12_make D cy ci h A0 o) {x2 : Int32} {x3 : Int32} {x6 : Int32} {t0 : Int32} {t1 : Int32} {I : Nat → Int32} {A : Nat → Nat → Int32} {H : Heap} {locs : List Loc} {ls : Array Slot} (hf : f_make_226 x2 x3 x6 t0 t1 I A = some o) (hM : mH D cy ci h A0 s H locs I A) (hl : lv_has ls 8 [(0, .ref (h 0)), (2, .int x2), (3, .int x3), (6, .int x6)]) : W p l e ({ frames := 2, cells := 0, slots := 0, locals := 43 } : Room) s m args below meth c H locs 0 0 Q (F0 m 226 ls [.int t0, .int t1, .ref (h 24)]) := by
  obtain ⟨hx, hb, hml, hown, hts⟩ := id X
  unfold f_make_226 at hf
  obtain ⟨cd, hf⟩ := m_chkE hf
  refine m_iast X hM 24 20 64 rfl ma_24 cd dX12_make_226 (fun H locs hM => ?_)
  clear cd
  obtain ⟨A1, ev, hf⟩ := m_bndE hf
  replace hM := m_hA hM ev
  clear ev
  refine lv_aload_n hx hb dX12_make_227 rfl (lv_at hl 0 rfl) ?_
  refine lv_iload_n hx hb dX12_make_228 rfl (lv_at hl 1 rfl) ?_
  obtain ⟨o2, ho, hf⟩ := m_clE hf
  refine m_callVv X hM (c_lose ho) gX12_make_X12_lose rfl ⟨rfl, rfl⟩ hd_lose ⟨Nat.le_of_ble_eq_true rfl, Nat.le_of_ble_eq_true rfl⟩ rfl hl.1 rfl (Nat.le_of_ble_eq_true rfl) dX12_make_229 (fun H locs hM => ?_)
  clear ho
  refine lv_aload_n hx hb dX12_make_232 rfl (lv_at hl 0 rfl) ?_
  refine lv_iload_n hx hb dX12_make_233 rfl (lv_at hl 2 rfl) ?_
  obtain ⟨o3, ho, hf⟩ := m_clE hf
  refine m_callVv X hM (c_lose ho) gX12_make_X12_lose rfl ⟨rfl, rfl⟩ hd_lose ⟨Nat.le_of_ble_eq_true rfl, Nat.le_of_ble_eq_true rfl⟩ rfl hl.1 rfl (Nat.le_of_ble_eq_true rfl) dX12_make_234 (fun H locs hM => ?_)
  clear ho
  refine lv_aload_n hx hb dX12_make_237 rfl (lv_at hl 0 rfl) ?_
  refine lv_iconst (v := (-1 : Int32)) hx hb dX12_make_238 (by decide) ?_
  refine m_put X hw_make hM 27 (by decide) fl_make_27 mi_27 rfl (tyX12_ok 27 (by decide)) dX12_make_239 (fun H locs hM => ?_)
  obtain ⟨I4, ev, hf⟩ := m_bndE hf
  replace hM := m_hI hM ev
  clear ev
  refine lv_iload hx hb dX12_make_242 (lv_at hl 3 rfl) ?_
  refine lv_if_eq (tgt := 319) hx hb dX12_make_244 (by decide) (fun cc1 => ?_) (fun cc1 => ?_)
  · replace hf := m_ifT hf cc1
    exact w_make_319 X hret hf hM (lv_sub hl [0] rfl)
  · replace hf := m_ifF hf cc1
    refine lv_iload_n hx hb dX12_make_247 rfl (lv_at hl 2 rfl) ?_
    refine lv_iload_n hx hb dX12_make_248 rfl (lv_at hl 1 rfl) ?_
    refine lv_bipush (v := (16 : Int32)) hx hb dX12_make_249 (by decide) ?_
    refine lv_iadd hx hb dX12_make_251 ?_
    obtain ⟨v5, ev, hf⟩ := m_bndE hf
    refine m_top ev ?_
    clear ev
    refine lv_icmp_eq (tgt := 263) hx hb dX12_make_252 (by decide) (fun cc1 => ?_) (fun cc1 => ?_)
    · replace hf := m_ifT hf cc1
      exact w_make_263 X hret hf hM (lv_sub hl [0, 1, 2] rfl)
    · replace hf := m_ifF hf cc1
      refine lv_iload_n hx hb dX12_make_255 rfl (lv_at hl 2 rfl) ?_
      refine lv_iload_n hx hb dX12_make_256 rfl (lv_at hl 1 rfl) ?_
      refine lv_bipush (v := (16 : Int32)) hx hb dX12_make_257 (by decide) ?_
      refine lv_isub hx hb dX12_make_259 ?_
      obtain ⟨v6, ev, hf⟩ := m_bndE hf
      refine m_top ev ?_
      clear ev
      refine lv_icmp_ne (tgt := 319) hx hb dX12_make_260 (by decide) (fun cc1 => ?_) (fun cc1 => ?_)
      · replace hf := m_ifF hf cc1
        exact w_make_319 X hret hf hM (lv_sub hl [0] rfl)
      · replace hf := m_ifT hf cc1
        exact w_make_263 X hret hf hM (lv_sub hl [0, 1, 2] rfl)
def f_make_194 (x2 : Int32) (x3 : Int32) (x4 : Int32) (x5 : Int32) (x6 : Int32) (I : Nat → Int32) (A : Nat → Nat → Int32) : Option (Int32 × MS) :=
  m_chk (¬ (x2 < 0 ∨ 64 ≤ (x2).toNatClampNeg)) (
  m_bnd (va_up A 24 (upd (A 24) (x2).toNatClampNeg (0 : Int32))) (fun A1 =>
  m_if (x4 ≤ 0) (
  f_make_226 x2 x3 x6 x5 x3 I A1
  ) (
  m_bnd ((8 : Int32) * (I 25)) (fun v2 =>
  m_bnd (x4 + v2) (fun v3 =>
  f_make_226 x2 x3 x6 v3 x3 I A1))
  )))

set_option maxRecDepth 100000 in
set_option maxHeartbeats 4000000 in
theorem w_make_194 {p : Program} {l : Launch} {e : Env} {s : State} {m : MethodId} {args : Array Value} {below : List Frame} {meth : Method} {c : Code} {Q : State → Prop} {D : va_G} {cy ci : ClassId} {h : Nat → Nat} {A0 : Nat → Prop} {o : Int32 × MS} (X : CallFix p m c cX12_make 8 s args wsX12_make RX12) (hret : mRv p l e ({ frames := 2, cells := 0, slots := 0, locals := 43 } : Room) s m args below meth c Q cX12_make D cy ci h A0 o) {x2 : Int32} {x3 : Int32} {x4 : Int32} {x5 : Int32} {x6 : Int32} {I : Nat → Int32} {A : Nat → Nat → Int32} {H : Heap} {locs : List Loc} {ls : Array Slot} (hf : f_make_194 x2 x3 x4 x5 x6 I A = some o) (hM : mH D cy ci h A0 s H locs I A) (hl : lv_has ls 8 [(0, .ref (h 0)), (2, .int x2), (3, .int x3), (4, .int x4), (5, .int x5), (6, .int x6)]) : W p l e ({ frames := 2, cells := 0, slots := 0, locals := 43 } : Room) s m args below meth c H locs 0 0 Q (F0 m 194 ls []) := by
  obtain ⟨hx, hb, hml, hown, hts⟩ := id X
  unfold f_make_194 at hf
  refine lv_aload_n hx hb dX12_make_194 rfl (lv_at hl 0 rfl) ?_
  refine m_get (v := .ref (h 24)) X hw_make hM 24 (by decide) fl_make_24 rfl dX12_make_195 ?_
  refine lv_iload_n hx hb dX12_make_198 rfl (lv_at hl 1 rfl) ?_
  refine lv_iconst (v := (0 : Int32)) hx hb dX12_make_199 (by decide) ?_
  obtain ⟨cd, hf⟩ := m_chkE hf
  refine m_iast X hM 24 20 64 rfl ma_24 cd dX12_make_200 (fun H locs hM => ?_)
  clear cd
  obtain ⟨A1, ev, hf⟩ := m_bndE hf
  replace hM := m_hA hM ev
  clear ev
  refine lv_aload_n hx hb dX12_make_201 rfl (lv_at hl 0 rfl) ?_
  refine m_get (v := .ref (h 24)) X hw_make hM 24 (by decide) fl_make_24 rfl dX12_make_202 ?_
  refine lv_iload_n hx hb dX12_make_205 rfl (lv_at hl 2 rfl) ?_
  refine lv_iload hx hb dX12_make_206 (lv_at hl 3 rfl) ?_
  refine lv_if_le (tgt := 224) hx hb dX12_make_208 (by decide) (fun cc1 => ?_) (fun cc1 => ?_)
  · replace hf := m_ifT hf cc1
    refine lv_iload hx hb dX12_make_224 (lv_at hl 4 rfl) ?_
    exact w_make_226 X hret hf hM (lv_sub hl [0, 1, 2, 5] rfl)
  · replace hf := m_ifF hf cc1
    refine lv_iload hx hb dX12_make_211 (lv_at hl 3 rfl) ?_
    refine lv_bipush (v := (8 : Int32)) hx hb dX12_make_213 (by decide) ?_
    refine lv_aload_n hx hb dX12_make_215 rfl (lv_at hl 0 rfl) ?_
    refine m_get (v := .int (I 25)) X hw_make hM 25 (by decide) fl_make_25 rfl dX12_make_216 ?_
    refine lv_imul hx hb dX12_make_219 ?_
    obtain ⟨v2, ev, hf⟩ := m_bndE hf
    refine m_top ev ?_
    clear ev
    refine lv_iadd hx hb dX12_make_220 ?_
    obtain ⟨v3, ev, hf⟩ := m_bndE hf
    refine m_top ev ?_
    clear ev
    refine lv_goto (tgt := 226) hx hb dX12_make_221 (by decide) ?_
    exact w_make_226 X hret hf hM (lv_sub hl [0, 1, 2, 5] rfl)
def f_make_167 (x2 : Int32) (x3 : Int32) (x4 : Int32) (x5 : Int32) (x6 : Int32) (t0 : Int32) (I : Nat → Int32) (A : Nat → Nat → Int32) : Option (Int32 × MS) :=
  m_bnd (x2 + x3) (fun v1 =>
  m_bnd (v1 / (2 : Int32)) (fun v2 =>
  m_chk (¬ (t0 < 0 ∨ 64 ≤ (t0).toNatClampNeg)) (
  m_bnd (A 24 (t0).toNatClampNeg) (fun v3 =>
  m_chk (¬ (v2 < 0 ∨ 64 ≤ (v2).toNatClampNeg)) (
  m_bnd (va_up A 24 (upd (A 24) (v2).toNatClampNeg v3)) (fun A4 =>
  m_chk (¬ (t0 < 0 ∨ 64 ≤ (t0).toNatClampNeg)) (
  m_bnd (va_up A4 24 (upd (A4 24) (t0).toNatClampNeg (0 : Int32))) (fun A5 =>
  f_make_194 x2 x3 x4 x5 x6 I A5))))))))

set_option maxRecDepth 100000 in
set_option maxHeartbeats 4000000 in
theorem w_make_167 {p : Program} {l : Launch} {e : Env} {s : State} {m : MethodId} {args : Array Value} {below : List Frame} {meth : Method} {c : Code} {Q : State → Prop} {D : va_G} {cy ci : ClassId} {h : Nat → Nat} {A0 : Nat → Prop} {o : Int32 × MS} (X : CallFix p m c cX12_make 8 s args wsX12_make RX12) (hret : mRv p l e ({ frames := 2, cells := 0, slots := 0, locals := 43 } : Room) s m args below meth c Q cX12_make D cy ci h A0 o) {x2 : Int32} {x3 : Int32} {x4 : Int32} {x5 : Int32} {x6 : Int32} {t0 : Int32} {I : Nat → Int32} {A : Nat → Nat → Int32} {H : Heap} {locs : List Loc} {ls : Array Slot} (hf : f_make_167 x2 x3 x4 x5 x6 t0 I A = some o) (hM : mH D cy ci h A0 s H locs I A) (hl : lv_has ls 8 [(0, .ref (h 0)), (2, .int x2), (3, .int x3), (4, .int x4), (5, .int x5), (6, .int x6)]) : W p l e ({ frames := 2, cells := 0, slots := 0, locals := 43 } : Room) s m args below meth c H locs 0 0 Q (F0 m 167 ls [.int t0]) := by
  obtain ⟨hx, hb, hml, hown, hts⟩ := id X
  unfold f_make_167 at hf
  refine lv_istore (lv' := [(7, .int t0), (0, .ref (h 0)), (2, .int x2), (3, .int x3), (4, .int x4), (5, .int x5), (6, .int x6)]) hx hb dX12_make_167 hl (by decide) rfl (fun ls hl => ?_)
  refine lv_aload_n hx hb dX12_make_169 rfl (lv_at hl 1 rfl) ?_
  refine m_get (v := .ref (h 24)) X hw_make hM 24 (by decide) fl_make_24 rfl dX12_make_170 ?_
  refine lv_iload_n hx hb dX12_make_173 rfl (lv_at hl 2 rfl) ?_
  refine lv_iload_n hx hb dX12_make_174 rfl (lv_at hl 3 rfl) ?_
  refine lv_iadd hx hb dX12_make_175 ?_
  obtain ⟨v1, ev, hf⟩ := m_bndE hf
  refine m_top ev ?_
  clear ev
  refine lv_iconst (v := (2 : Int32)) hx hb dX12_make_176 (by decide) ?_
  refine lv_idiv hx hb dX12_make_177 (by decide) ?_
  obtain ⟨v2, ev, hf⟩ := m_bndE hf
  refine m_top ev ?_
  clear ev
  refine lv_aload_n hx hb dX12_make_178 rfl (lv_at hl 1 rfl) ?_
  refine m_get (v := .ref (h 24)) X hw_make hM 24 (by decide) fl_make_24 rfl dX12_make_179 ?_
  refine lv_iload hx hb dX12_make_182 (lv_at hl 0 rfl) ?_
  obtain ⟨cd, hf⟩ := m_chkE hf
  refine m_iald X hM 24 20 64 rfl cd dX12_make_184 ?_
  clear cd
  obtain ⟨v3, ev, hf⟩ := m_bndE hf
  refine m_top ev ?_
  clear ev
  obtain ⟨cd, hf⟩ := m_chkE hf
  refine m_iast X hM 24 20 64 rfl ma_24 cd dX12_make_185 (fun H locs hM => ?_)
  clear cd
  obtain ⟨A4, ev, hf⟩ := m_bndE hf
  replace hM := m_hA hM ev
  clear ev
  refine lv_aload_n hx hb dX12_make_186 rfl (lv_at hl 1 rfl) ?_
  refine m_get (v := .ref (h 24)) X hw_make hM 24 (by decide) fl_make_24 rfl dX12_make_187 ?_
  refine lv_iload hx hb dX12_make_190 (lv_at hl 0 rfl) ?_
  refine lv_iconst (v := (0 : Int32)) hx hb dX12_make_192 (by decide) ?_
  obtain ⟨cd, hf⟩ := m_chkE hf
  refine m_iast X hM 24 20 64 rfl ma_24 cd dX12_make_193 (fun H locs hM => ?_)
  clear cd
  obtain ⟨A5, ev, hf⟩ := m_bndE hf
  replace hM := m_hA hM ev
  clear ev
  exact w_make_194 X hret hf hM (lv_sub hl [1, 2, 3, 4, 5, 6] rfl)
def f_make_149 (x2 : Int32) (x3 : Int32) (x4 : Int32) (x5 : Int32) (x6 : Int32) (I : Nat → Int32) (A : Nat → Nat → Int32) : Option (Int32 × MS) :=
  m_bnd (x3 - x3 / (8 : Int32) * (8 : Int32)) (fun v1 =>
  m_if (v1 = (6 : Int32)) (
  m_bnd (x2 + (3 : Int32)) (fun v3 =>
  f_make_167 x2 x3 x4 x5 x6 v3 I A)
  ) (
  m_bnd (x2 - (4 : Int32)) (fun v2 =>
  f_make_167 x2 x3 x4 x5 x6 v2 I A)
  ))

set_option maxRecDepth 100000 in
set_option maxHeartbeats 4000000 in
theorem w_make_149 {p : Program} {l : Launch} {e : Env} {s : State} {m : MethodId} {args : Array Value} {below : List Frame} {meth : Method} {c : Code} {Q : State → Prop} {D : va_G} {cy ci : ClassId} {h : Nat → Nat} {A0 : Nat → Prop} {o : Int32 × MS} (X : CallFix p m c cX12_make 8 s args wsX12_make RX12) (hret : mRv p l e ({ frames := 2, cells := 0, slots := 0, locals := 43 } : Room) s m args below meth c Q cX12_make D cy ci h A0 o) {x2 : Int32} {x3 : Int32} {x4 : Int32} {x5 : Int32} {x6 : Int32} {I : Nat → Int32} {A : Nat → Nat → Int32} {H : Heap} {locs : List Loc} {ls : Array Slot} (hf : f_make_149 x2 x3 x4 x5 x6 I A = some o) (hM : mH D cy ci h A0 s H locs I A) (hl : lv_has ls 8 [(0, .ref (h 0)), (2, .int x2), (3, .int x3), (4, .int x4), (5, .int x5), (6, .int x6)]) : W p l e ({ frames := 2, cells := 0, slots := 0, locals := 43 } : Room) s m args below meth c H locs 0 0 Q (F0 m 149 ls []) := by
  obtain ⟨hx, hb, hml, hown, hts⟩ := id X
  unfold f_make_149 at hf
  refine lv_iload_n hx hb dX12_make_149 rfl (lv_at hl 2 rfl) ?_
  refine lv_bipush (v := (8 : Int32)) hx hb dX12_make_150 (by decide) ?_
  refine lv_irem hx hb dX12_make_152 (by decide) ?_
  obtain ⟨v1, ev, hf⟩ := m_bndE hf
  refine m_top ev ?_
  clear ev
  refine lv_bipush (v := (6 : Int32)) hx hb dX12_make_153 (by decide) ?_
  refine lv_icmp_ne (tgt := 164) hx hb dX12_make_155 (by decide) (fun cc1 => ?_) (fun cc1 => ?_)
  · replace hf := m_ifF hf cc1
    refine lv_iload_n hx hb dX12_make_164 rfl (lv_at hl 1 rfl) ?_
    refine lv_iconst (v := (4 : Int32)) hx hb dX12_make_165 (by decide) ?_
    refine lv_isub hx hb dX12_make_166 ?_
    obtain ⟨v2, ev, hf⟩ := m_bndE hf
    refine m_top ev ?_
    clear ev
    exact w_make_167 X hret hf hM (lv_sub hl [0, 1, 2, 3, 4, 5] rfl)
  · replace hf := m_ifT hf cc1
    refine lv_iload_n hx hb dX12_make_158 rfl (lv_at hl 1 rfl) ?_
    refine lv_iconst (v := (3 : Int32)) hx hb dX12_make_159 (by decide) ?_
    refine lv_iadd hx hb dX12_make_160 ?_
    obtain ⟨v3, ev, hf⟩ := m_bndE hf
    refine m_top ev ?_
    clear ev
    refine lv_goto (tgt := 167) hx hb dX12_make_161 (by decide) ?_
    exact w_make_167 X hret hf hM (lv_sub hl [0, 1, 2, 3, 4, 5] rfl)
def f_make_114 (x2 : Int32) (x3 : Int32) (x4 : Int32) (x5 : Int32) (x6 : Int32) (I : Nat → Int32) (A : Nat → Nat → Int32) : Option (Int32 × MS) :=
  m_cl (f_kind x5 I A) (fun r1 Ic1 Ac1 =>
  m_if (r1 = (6 : Int32)) (
  m_bnd (x2 - x2 / (8 : Int32) * (8 : Int32)) (fun v2 =>
  m_if (v2 = (4 : Int32)) (
  m_bnd (x3 - x3 / (8 : Int32) * (8 : Int32)) (fun v3 =>
  m_if (v3 = (6 : Int32)) (
  f_make_149 x2 x3 x4 x5 x6 Ic1 Ac1
  ) (
  m_bnd (x3 - x3 / (8 : Int32) * (8 : Int32)) (fun v4 =>
  m_if (v4 = (2 : Int32)) (
  f_make_149 x2 x3 x4 x5 x6 Ic1 Ac1
  ) (
  f_make_194 x2 x3 x4 x5 x6 Ic1 Ac1
  ))
  ))
  ) (
  f_make_194 x2 x3 x4 x5 x6 Ic1 Ac1
  ))
  ) (
  f_make_194 x2 x3 x4 x5 x6 Ic1 Ac1
  ))

set_option maxRecDepth 100000 in
set_option maxHeartbeats 4000000 in
theorem w_make_114 {p : Program} {l : Launch} {e : Env} {s : State} {m : MethodId} {args : Array Value} {below : List Frame} {meth : Method} {c : Code} {Q : State → Prop} {D : va_G} {cy ci : ClassId} {h : Nat → Nat} {A0 : Nat → Prop} {o : Int32 × MS} (X : CallFix p m c cX12_make 8 s args wsX12_make RX12) (hret : mRv p l e ({ frames := 2, cells := 0, slots := 0, locals := 43 } : Room) s m args below meth c Q cX12_make D cy ci h A0 o) {x2 : Int32} {x3 : Int32} {x4 : Int32} {x5 : Int32} {x6 : Int32} {I : Nat → Int32} {A : Nat → Nat → Int32} {H : Heap} {locs : List Loc} {ls : Array Slot} (hf : f_make_114 x2 x3 x4 x5 x6 I A = some o) (hM : mH D cy ci h A0 s H locs I A) (hl : lv_has ls 8 [(0, .ref (h 0)), (2, .int x2), (3, .int x3), (4, .int x4), (5, .int x5), (6, .int x6)]) : W p l e ({ frames := 2, cells := 0, slots := 0, locals := 43 } : Room) s m args below meth c H locs 0 0 Q (F0 m 114 ls []) := by
  obtain ⟨hx, hb, hml, hown, hts⟩ := id X
  unfold f_make_114 at hf
  refine lv_iload hx hb dX12_make_114 (lv_at hl 4 rfl) ?_
  obtain ⟨o1, ho, hf⟩ := m_clE hf
  refine m_callSi X hM (c_kind ho) gX12_make_X12_kind rfl ⟨rfl, rfl⟩ hd_kind ⟨Nat.le_of_ble_eq_true rfl, Nat.le_of_ble_eq_true rfl⟩ rfl hl.1 rfl (Nat.le_of_ble_eq_true rfl) dX12_make_116 (fun H locs hM => ?_)
  clear ho
  refine lv_bipush (v := (6 : Int32)) hx hb dX12_make_119 (by decide) ?_
  refine lv_icmp_ne (tgt := 194) hx hb dX12_make_121 (by decide) (fun cc1 => ?_) (fun cc1 => ?_)
  · replace hf := m_ifF hf cc1
    exact w_make_194 X hret hf hM (lv_sub hl [0, 1, 2, 3, 4, 5] rfl)
  · replace hf := m_ifT hf cc1
    refine lv_iload_n hx hb dX12_make_124 rfl (lv_at hl 1 rfl) ?_
    refine lv_bipush (v := (8 : Int32)) hx hb dX12_make_125 (by decide) ?_
    refine lv_irem hx hb dX12_make_127 (by decide) ?_
    obtain ⟨v2, ev, hf⟩ := m_bndE hf
    refine m_top ev ?_
    clear ev
    refine lv_iconst (v := (4 : Int32)) hx hb dX12_make_128 (by decide) ?_
    refine lv_icmp_ne (tgt := 194) hx hb dX12_make_129 (by decide) (fun cc1 => ?_) (fun cc1 => ?_)
    · replace hf := m_ifF hf cc1
      exact w_make_194 X hret hf hM (lv_sub hl [0, 1, 2, 3, 4, 5] rfl)
    · replace hf := m_ifT hf cc1
      refine lv_iload_n hx hb dX12_make_132 rfl (lv_at hl 2 rfl) ?_
      refine lv_bipush (v := (8 : Int32)) hx hb dX12_make_133 (by decide) ?_
      refine lv_irem hx hb dX12_make_135 (by decide) ?_
      obtain ⟨v3, ev, hf⟩ := m_bndE hf
      refine m_top ev ?_
      clear ev
      refine lv_bipush (v := (6 : Int32)) hx hb dX12_make_136 (by decide) ?_
      refine lv_icmp_eq (tgt := 149) hx hb dX12_make_138 (by decide) (fun cc1 => ?_) (fun cc1 => ?_)
      · replace hf := m_ifT hf cc1
        exact w_make_149 X hret hf hM (lv_sub hl [0, 1, 2, 3, 4, 5] rfl)
      · replace hf := m_ifF hf cc1
        refine lv_iload_n hx hb dX12_make_141 rfl (lv_at hl 2 rfl) ?_
        refine lv_bipush (v := (8 : Int32)) hx hb dX12_make_142 (by decide) ?_
        refine lv_irem hx hb dX12_make_144 (by decide) ?_
        obtain ⟨v4, ev, hf⟩ := m_bndE hf
        refine m_top ev ?_
        clear ev
        refine lv_iconst (v := (2 : Int32)) hx hb dX12_make_145 (by decide) ?_
        refine lv_icmp_ne (tgt := 194) hx hb dX12_make_146 (by decide) (fun cc1 => ?_) (fun cc1 => ?_)
        · replace hf := m_ifF hf cc1
          exact w_make_194 X hret hf hM (lv_sub hl [0, 1, 2, 3, 4, 5] rfl)
        · replace hf := m_ifT hf cc1
          exact w_make_149 X hret hf hM (lv_sub hl [0, 1, 2, 3, 4, 5] rfl)
def f_make_68 (x2 : Int32) (x3 : Int32) (x4 : Int32) (x5 : Int32) (x6 : Int32) (t0 : Int32) (I : Nat → Int32) (A : Nat → Nat → Int32) : Option (Int32 × MS) :=
  m_bnd (upd I 28 t0) (fun I1 =>
  m_if (x6 = 0) (
  f_make_114 x2 x3 x4 x5 x6 I1 A
  ) (
  m_chk (¬ (x3 < 0 ∨ 64 ≤ (x3).toNatClampNeg)) (
  m_bnd (A 24 (x3).toNatClampNeg) (fun v2 =>
  m_if (v2 = 0) (
  m_bnd (x2 - x2 / (8 : Int32) * (8 : Int32)) (fun v3 =>
  m_bnd (x3 - x3 / (8 : Int32) * (8 : Int32)) (fun v4 =>
  m_if (v3 = v4) (
  f_make_114 x2 x3 x4 x5 x6 I1 A
  ) (
  m_bnd (x2 / (8 : Int32)) (fun v5 =>
  m_bnd (v5 * (8 : Int32)) (fun v6 =>
  m_bnd (x3 - x3 / (8 : Int32) * (8 : Int32)) (fun v7 =>
  m_bnd (v6 + v7) (fun v8 =>
  m_chk (¬ (v8 < 0 ∨ 64 ≤ (v8).toNatClampNeg)) (
  m_bnd (va_up A 24 (upd (A 24) (v8).toNatClampNeg (0 : Int32))) (fun A9 =>
  f_make_114 x2 x3 x4 x5 x6 I1 A9))))))
  )))
  ) (
  f_make_114 x2 x3 x4 x5 x6 I1 A
  )))
  ))

set_option maxRecDepth 100000 in
set_option maxHeartbeats 4000000 in
theorem w_make_68 {p : Program} {l : Launch} {e : Env} {s : State} {m : MethodId} {args : Array Value} {below : List Frame} {meth : Method} {c : Code} {Q : State → Prop} {D : va_G} {cy ci : ClassId} {h : Nat → Nat} {A0 : Nat → Prop} {o : Int32 × MS} (X : CallFix p m c cX12_make 8 s args wsX12_make RX12) (hret : mRv p l e ({ frames := 2, cells := 0, slots := 0, locals := 43 } : Room) s m args below meth c Q cX12_make D cy ci h A0 o) {x2 : Int32} {x3 : Int32} {x4 : Int32} {x5 : Int32} {x6 : Int32} {t0 : Int32} {I : Nat → Int32} {A : Nat → Nat → Int32} {H : Heap} {locs : List Loc} {ls : Array Slot} (hf : f_make_68 x2 x3 x4 x5 x6 t0 I A = some o) (hM : mH D cy ci h A0 s H locs I A) (hl : lv_has ls 8 [(0, .ref (h 0)), (2, .int x2), (3, .int x3), (4, .int x4), (5, .int x5), (6, .int x6)]) : W p l e ({ frames := 2, cells := 0, slots := 0, locals := 43 } : Room) s m args below meth c H locs 0 0 Q (F0 m 68 ls [.int t0, .ref (h 0)]) := by
  obtain ⟨hx, hb, hml, hown, hts⟩ := id X
  unfold f_make_68 at hf
  refine m_put X hw_make hM 28 (by decide) fl_make_28 mi_28 rfl (tyX12_ok 28 (by decide)) dX12_make_68 (fun H locs hM => ?_)
  obtain ⟨I1, ev, hf⟩ := m_bndE hf
  replace hM := m_hI hM ev
  clear ev
  refine lv_iload hx hb dX12_make_71 (lv_at hl 5 rfl) ?_
  refine lv_if_eq (tgt := 114) hx hb dX12_make_73 (by decide) (fun cc1 => ?_) (fun cc1 => ?_)
  · replace hf := m_ifT hf cc1
    exact w_make_114 X hret hf hM (lv_sub hl [0, 1, 2, 3, 4, 5] rfl)
  · replace hf := m_ifF hf cc1
    refine lv_aload_n hx hb dX12_make_76 rfl (lv_at hl 0 rfl) ?_
    refine m_get (v := .ref (h 24)) X hw_make hM 24 (by decide) fl_make_24 rfl dX12_make_77 ?_
    refine lv_iload_n hx hb dX12_make_80 rfl (lv_at hl 2 rfl) ?_
    obtain ⟨cd, hf⟩ := m_chkE hf
    refine m_iald X hM 24 20 64 rfl cd dX12_make_81 ?_
    clear cd
    obtain ⟨v2, ev, hf⟩ := m_bndE hf
    refine m_top ev ?_
    clear ev
    refine lv_if_ne (tgt := 114) hx hb dX12_make_82 (by decide) (fun cc1 => ?_) (fun cc1 => ?_)
    · replace hf := m_ifF hf cc1
      exact w_make_114 X hret hf hM (lv_sub hl [0, 1, 2, 3, 4, 5] rfl)
    · replace hf := m_ifT hf cc1
      refine lv_iload_n hx hb dX12_make_85 rfl (lv_at hl 1 rfl) ?_
      refine lv_bipush (v := (8 : Int32)) hx hb dX12_make_86 (by decide) ?_
      refine lv_irem hx hb dX12_make_88 (by decide) ?_
      obtain ⟨v3, ev, hf⟩ := m_bndE hf
      refine m_top ev ?_
      clear ev
      refine lv_iload_n hx hb dX12_make_89 rfl (lv_at hl 2 rfl) ?_
      refine lv_bipush (v := (8 : Int32)) hx hb dX12_make_90 (by decide) ?_
      refine lv_irem hx hb dX12_make_92 (by decide) ?_
      obtain ⟨v4, ev, hf⟩ := m_bndE hf
      refine m_top ev ?_
      clear ev
      refine lv_icmp_eq (tgt := 114) hx hb dX12_make_93 (by decide) (fun cc1 => ?_) (fun cc1 => ?_)
      · replace hf := m_ifT hf cc1
        exact w_make_114 X hret hf hM (lv_sub hl [0, 1, 2, 3, 4, 5] rfl)
      · replace hf := m_ifF hf cc1
        refine lv_aload_n hx hb dX12_make_96 rfl (lv_at hl 0 rfl) ?_
        refine m_get (v := .ref (h 24)) X hw_make hM 24 (by decide) fl_make_24 rfl dX12_make_97 ?_
        refine lv_iload_n hx hb dX12_make_100 rfl (lv_at hl 1 rfl) ?_
        refine lv_bipush (v := (8 : Int32)) hx hb dX12_make_101 (by decide) ?_
        refine lv_idiv hx hb dX12_make_103 (by decide) ?_
        obtain ⟨v5, ev, hf⟩ := m_bndE hf
        refine m_top ev ?_
        clear ev
        refine lv_bipush (v := (8 : Int32)) hx hb dX12_make_104 (by decide) ?_
        refine lv_imul hx hb dX12_make_106 ?_
        obtain ⟨v6, ev, hf⟩ := m_bndE hf
        refine m_top ev ?_
        clear ev
        refine lv_iload_n hx hb dX12_make_107 rfl (lv_at hl 2 rfl) ?_
        refine lv_bipush (v := (8 : Int32)) hx hb dX12_make_108 (by decide) ?_
        refine lv_irem hx hb dX12_make_110 (by decide) ?_
        obtain ⟨v7, ev, hf⟩ := m_bndE hf
        refine m_top ev ?_
        clear ev
        refine lv_iadd hx hb dX12_make_111 ?_
        obtain ⟨v8, ev, hf⟩ := m_bndE hf
        refine m_top ev ?_
        clear ev
        refine lv_iconst (v := (0 : Int32)) hx hb dX12_make_112 (by decide) ?_
        obtain ⟨cd, hf⟩ := m_chkE hf
        refine m_iast X hM 24 20 64 rfl ma_24 cd dX12_make_113 (fun H locs hM => ?_)
        clear cd
        obtain ⟨A9, ev, hf⟩ := m_bndE hf
        replace hM := m_hA hM ev
        clear ev
        exact w_make_114 X hret hf hM (lv_sub hl [0, 1, 2, 3, 4, 5] rfl)
def f_make_58 (x2 : Int32) (x3 : Int32) (x4 : Int32) (x5 : Int32) (x6 : Int32) (I : Nat → Int32) (A : Nat → Nat → Int32) : Option (Int32 × MS) :=
  f_make_68 x2 x3 x4 x5 x6 (0 : Int32) I A

set_option maxRecDepth 100000 in
set_option maxHeartbeats 4000000 in
theorem w_make_58 {p : Program} {l : Launch} {e : Env} {s : State} {m : MethodId} {args : Array Value} {below : List Frame} {meth : Method} {c : Code} {Q : State → Prop} {D : va_G} {cy ci : ClassId} {h : Nat → Nat} {A0 : Nat → Prop} {o : Int32 × MS} (X : CallFix p m c cX12_make 8 s args wsX12_make RX12) (hret : mRv p l e ({ frames := 2, cells := 0, slots := 0, locals := 43 } : Room) s m args below meth c Q cX12_make D cy ci h A0 o) {x2 : Int32} {x3 : Int32} {x4 : Int32} {x5 : Int32} {x6 : Int32} {I : Nat → Int32} {A : Nat → Nat → Int32} {H : Heap} {locs : List Loc} {ls : Array Slot} (hf : f_make_58 x2 x3 x4 x5 x6 I A = some o) (hM : mH D cy ci h A0 s H locs I A) (hl : lv_has ls 8 [(0, .ref (h 0)), (2, .int x2), (3, .int x3), (4, .int x4), (5, .int x5), (6, .int x6)]) : W p l e ({ frames := 2, cells := 0, slots := 0, locals := 43 } : Room) s m args below meth c H locs 0 0 Q (F0 m 58 ls [.ref (h 0)]) := by
  obtain ⟨hx, hb, hml, hown, hts⟩ := id X
  unfold f_make_58 at hf
  refine lv_iconst (v := (0 : Int32)) hx hb dX12_make_58 (by decide) ?_
  refine lv_goto (tgt := 68) hx hb dX12_make_59 (by decide) ?_
  exact w_make_68 X hret hf hM (lv_sub hl [0, 1, 2, 3, 4, 5] rfl)
def f_make_42 (x1 : Int32) (x2 : Int32) (x3 : Int32) (x4 : Int32) (x5 : Int32) (t0 : Int32) (I : Nat → Int32) (A : Nat → Nat → Int32) : Option (Int32 × MS) :=
  m_if (t0 = 0) (
  m_cl (f_isTaking x1 I A) (fun r1 Ic1 Ac1 =>
  m_if (r1 = 0) (
  m_bnd ((Ic1 28) + (1 : Int32)) (fun v2 =>
  f_make_68 x2 x3 x4 x5 t0 v2 Ic1 Ac1)
  ) (
  f_make_58 x2 x3 x4 x5 t0 Ic1 Ac1
  ))
  ) (
  f_make_58 x2 x3 x4 x5 t0 I A
  )

set_option maxRecDepth 100000 in
set_option maxHeartbeats 4000000 in
theorem w_make_42 {p : Program} {l : Launch} {e : Env} {s : State} {m : MethodId} {args : Array Value} {below : List Frame} {meth : Method} {c : Code} {Q : State → Prop} {D : va_G} {cy ci : ClassId} {h : Nat → Nat} {A0 : Nat → Prop} {o : Int32 × MS} (X : CallFix p m c cX12_make 8 s args wsX12_make RX12) (hret : mRv p l e ({ frames := 2, cells := 0, slots := 0, locals := 43 } : Room) s m args below meth c Q cX12_make D cy ci h A0 o) {x1 : Int32} {x2 : Int32} {x3 : Int32} {x4 : Int32} {x5 : Int32} {t0 : Int32} {I : Nat → Int32} {A : Nat → Nat → Int32} {H : Heap} {locs : List Loc} {ls : Array Slot} (hf : f_make_42 x1 x2 x3 x4 x5 t0 I A = some o) (hM : mH D cy ci h A0 s H locs I A) (hl : lv_has ls 8 [(0, .ref (h 0)), (1, .int x1), (2, .int x2), (3, .int x3), (4, .int x4), (5, .int x5)]) : W p l e ({ frames := 2, cells := 0, slots := 0, locals := 43 } : Room) s m args below meth c H locs 0 0 Q (F0 m 42 ls [.int t0]) := by
  obtain ⟨hx, hb, hml, hown, hts⟩ := id X
  unfold f_make_42 at hf
  refine lv_istore (lv' := [(6, .int t0), (0, .ref (h 0)), (1, .int x1), (2, .int x2), (3, .int x3), (4, .int x4), (5, .int x5)]) hx hb dX12_make_42 hl (by decide) rfl (fun ls hl => ?_)
  refine lv_aload_n hx hb dX12_make_44 rfl (lv_at hl 1 rfl) ?_
  refine lv_iload hx hb dX12_make_45 (lv_at hl 0 rfl) ?_
  refine lv_if_ne (tgt := 58) hx hb dX12_make_47 (by decide) (fun cc1 => ?_) (fun cc1 => ?_)
  · replace hf := m_ifF hf cc1
    exact w_make_58 X hret hf hM (lv_sub hl [1, 3, 4, 5, 6, 0] rfl)
  · replace hf := m_ifT hf cc1
    refine lv_aload_n hx hb dX12_make_50 rfl (lv_at hl 1 rfl) ?_
    refine lv_iload_n hx hb dX12_make_51 rfl (lv_at hl 2 rfl) ?_
    obtain ⟨o1, ho, hf⟩ := m_clE hf
    refine m_callVi X hM (c_isTaking ho) gX12_make_X12_isTaking rfl ⟨rfl, rfl⟩ hd_isTaking ⟨Nat.le_of_ble_eq_true rfl, Nat.le_of_ble_eq_true rfl⟩ rfl hl.1 rfl (Nat.le_of_ble_eq_true rfl) dX12_make_52 (fun H locs hM => ?_)
    clear ho
    refine lv_if_eq (tgt := 62) hx hb dX12_make_55 (by decide) (fun cc1 => ?_) (fun cc1 => ?_)
    · replace hf := m_ifT hf cc1
      refine lv_aload_n hx hb dX12_make_62 rfl (lv_at hl 1 rfl) ?_
      refine m_get (v := .int (o1.2.1 28)) X hw_make hM 28 (by decide) fl_make_28 rfl dX12_make_63 ?_
      refine lv_iconst (v := (1 : Int32)) hx hb dX12_make_66 (by decide) ?_
      refine lv_iadd hx hb dX12_make_67 ?_
      obtain ⟨v2, ev, hf⟩ := m_bndE hf
      refine m_top ev ?_
      clear ev
      exact w_make_68 X hret hf hM (lv_sub hl [1, 3, 4, 5, 6, 0] rfl)
    · replace hf := m_ifF hf cc1
      exact w_make_58 X hret hf hM (lv_sub hl [1, 3, 4, 5, 6, 0] rfl)
def f_make_0 (x1 : Int32) (I : Nat → Int32) (A : Nat → Nat → Int32) : Option (Int32 × MS) :=
  m_bnd (x1 - x1 / (64 : Int32) * (64 : Int32)) (fun v1 =>
  m_bnd (x1 / (64 : Int32)) (fun v2 =>
  m_bnd (v2 - v2 / (64 : Int32) * (64 : Int32)) (fun v3 =>
  m_bnd (x1 / (4096 : Int32)) (fun v4 =>
  m_chk (¬ (v1 < 0 ∨ 64 ≤ (v1).toNatClampNeg)) (
  m_bnd (A 24 (v1).toNatClampNeg) (fun v5 =>
  m_cl (f_kind v5 I A) (fun r6 Ic6 Ac6 =>
  m_if (r6 = (1 : Int32)) (
  f_make_42 x1 v1 v3 v4 v5 (1 : Int32) Ic6 Ac6
  ) (
  f_make_42 x1 v1 v3 v4 v5 (0 : Int32) Ic6 Ac6
  ))))))))

set_option maxRecDepth 100000 in
set_option maxHeartbeats 4000000 in
theorem w_make_0 {p : Program} {l : Launch} {e : Env} {s : State} {m : MethodId} {args : Array Value} {below : List Frame} {meth : Method} {c : Code} {Q : State → Prop} {D : va_G} {cy ci : ClassId} {h : Nat → Nat} {A0 : Nat → Prop} {o : Int32 × MS} (X : CallFix p m c cX12_make 8 s args wsX12_make RX12) (hret : mRv p l e ({ frames := 2, cells := 0, slots := 0, locals := 43 } : Room) s m args below meth c Q cX12_make D cy ci h A0 o) {x1 : Int32} {I : Nat → Int32} {A : Nat → Nat → Int32} {H : Heap} {locs : List Loc} {ls : Array Slot} (hf : f_make_0 x1 I A = some o) (hM : mH D cy ci h A0 s H locs I A) (hl : lv_has ls 8 [(0, .ref (h 0)), (1, .int x1)]) : W p l e ({ frames := 2, cells := 0, slots := 0, locals := 43 } : Room) s m args below meth c H locs 0 0 Q (F0 m 0 ls []) := by
  obtain ⟨hx, hb, hml, hown, hts⟩ := id X
  unfold f_make_0 at hf
  refine lv_iload_n hx hb dX12_make_0 rfl (lv_at hl 1 rfl) ?_
  refine lv_bipush (v := (64 : Int32)) hx hb dX12_make_1 (by decide) ?_
  refine lv_irem hx hb dX12_make_3 (by decide) ?_
  obtain ⟨v1, ev, hf⟩ := m_bndE hf
  refine m_top ev ?_
  clear ev
  refine lv_istore_n (lv' := [(2, .int v1), (0, .ref (h 0)), (1, .int x1)]) hx hb dX12_make_4 rfl hl (by decide) rfl (fun ls hl => ?_)
  refine lv_iload_n hx hb dX12_make_5 rfl (lv_at hl 2 rfl) ?_
  refine lv_bipush (v := (64 : Int32)) hx hb dX12_make_6 (by decide) ?_
  refine lv_idiv hx hb dX12_make_8 (by decide) ?_
  obtain ⟨v2, ev, hf⟩ := m_bndE hf
  refine m_top ev ?_
  clear ev
  refine lv_bipush (v := (64 : Int32)) hx hb dX12_make_9 (by decide) ?_
  refine lv_irem hx hb dX12_make_11 (by decide) ?_
  obtain ⟨v3, ev, hf⟩ := m_bndE hf
  refine m_top ev ?_
  clear ev
  refine lv_istore_n (lv' := [(3, .int v3), (2, .int v1), (0, .ref (h 0)), (1, .int x1)]) hx hb dX12_make_12 rfl hl (by decide) rfl (fun ls hl => ?_)
  refine lv_iload_n hx hb dX12_make_13 rfl (lv_at hl 3 rfl) ?_
  refine lv_sipush (v := (4096 : Int32)) hx hb dX12_make_14 (by decide) ?_
  refine lv_idiv hx hb dX12_make_17 (by decide) ?_
  obtain ⟨v4, ev, hf⟩ := m_bndE hf
  refine m_top ev ?_
  clear ev
  refine lv_istore (lv' := [(4, .int v4), (3, .int v3), (2, .int v1), (0, .ref (h 0)), (1, .int x1)]) hx hb dX12_make_18 hl (by decide) rfl (fun ls hl => ?_)
  refine lv_aload_n hx hb dX12_make_20 rfl (lv_at hl 3 rfl) ?_
  refine m_get (v := .ref (h 24)) X hw_make hM 24 (by decide) fl_make_24 rfl dX12_make_21 ?_
  refine lv_iload_n hx hb dX12_make_24 rfl (lv_at hl 2 rfl) ?_
  obtain ⟨cd, hf⟩ := m_chkE hf
  refine m_iald X hM 24 20 64 rfl cd dX12_make_25 ?_
  clear cd
  obtain ⟨v5, ev, hf⟩ := m_bndE hf
  refine m_top ev ?_
  clear ev
  refine lv_istore (lv' := [(5, .int v5), (4, .int v4), (3, .int v3), (2, .int v1), (0, .ref (h 0)), (1, .int x1)]) hx hb dX12_make_26 hl (by decide) rfl (fun ls hl => ?_)
  refine lv_iload hx hb dX12_make_28 (lv_at hl 0 rfl) ?_
  obtain ⟨o6, ho, hf⟩ := m_clE hf
  refine m_callSi X hM (c_kind ho) gX12_make_X12_kind rfl ⟨rfl, rfl⟩ hd_kind ⟨Nat.le_of_ble_eq_true rfl, Nat.le_of_ble_eq_true rfl⟩ rfl hl.1 rfl (Nat.le_of_ble_eq_true rfl) dX12_make_30 (fun H locs hM => ?_)
  clear ho
  refine lv_iconst (v := (1 : Int32)) hx hb dX12_make_33 (by decide) ?_
  refine lv_icmp_ne (tgt := 41) hx hb dX12_make_34 (by decide) (fun cc1 => ?_) (fun cc1 => ?_)
  · replace hf := m_ifF hf cc1
    refine lv_iconst (v := (0 : Int32)) hx hb dX12_make_41 (by decide) ?_
    exact w_make_42 X hret hf hM (lv_sub hl [4, 5, 3, 2, 1, 0] rfl)
  · replace hf := m_ifT hf cc1
    refine lv_iconst (v := (1 : Int32)) hx hb dX12_make_37 (by decide) ?_
    refine lv_goto (tgt := 42) hx hb dX12_make_38 (by decide) ?_
    exact w_make_42 X hret hf hM (lv_sub hl [4, 5, 3, 2, 1, 0] rfl)
def f_make (x1 : Int32) (I : Nat → Int32) (A : Nat → Nat → Int32) : Option (Int32 × MS) := f_make_0 x1 I A
theorem c_make {l : Launch} {D : va_G} {cy ci : ClassId} {h : Nat → Nat} {x1 : Int32} {I : Nat → Int32} {A : Nat → Nat → Int32} {o : Int32 × MS} (hf : f_make x1 I A = some o) : mMv l yX12_make wsX12_make ({ frames := 2, cells := 0, slots := 0, locals := 43 } : Room) [.ref (h 0), .int x1] D cy ci h I A o :=
  m_entryV (cc := cX12_make) (maxL := 8) (by decide) rfl rfl (Nat.le_of_ble_eq_true rfl) (fun p e s m args below meth c A0 Q H locs ls X hret hM hl => w_make_0 X hret hf hM (lv_sub hl [0, 1] rfl))
theorem hd_sideOf : yX12_sideOf.cls ≠ "java/lang/invoke/MethodHandle" ∧ yX12_sideOf.cls ≠ "java/lang/invoke/VarHandle" ∧ (parseMethodDescriptor yX12_sideOf.desc).map (fun d => d.parameters.length) = some 1 := by decide +kernel
def f_sideOf_11 (t0 : Int32) (I : Nat → Int32) (A : Nat → Nat → Int32) : Option (Int32 × MS) :=
  some (t0, (I, A))

set_option maxRecDepth 100000 in
set_option maxHeartbeats 4000000 in
theorem w_sideOf_11 {p : Program} {l : Launch} {e : Env} {s : State} {m : MethodId} {args : Array Value} {below : List Frame} {meth : Method} {c : Code} {Q : State → Prop} {D : va_G} {cy ci : ClassId} {h : Nat → Nat} {A0 : Nat → Prop} {o : Int32 × MS} (X : CallFix p m c cX12_sideOf 1 s args wsX12_sideOf RX12) (hret : mRi p l e ({ frames := 0, cells := 0, slots := 0, locals := 0 } : Room) s m args below meth c Q cX12_sideOf D cy ci h A0 .int o) {t0 : Int32} {I : Nat → Int32} {A : Nat → Nat → Int32} {H : Heap} {locs : List Loc} {ls : Array Slot} (hf : f_sideOf_11 t0 I A = some o) (hM : mH D cy ci h A0 s H locs I A) (hl : lv_has ls 1 []) : W p l e ({ frames := 0, cells := 0, slots := 0, locals := 0 } : Room) s m args below meth c H locs 0 0 Q (F0 m 11 ls [.int t0]) := by
  obtain ⟨hx, hb, hml, hown, hts⟩ := id X
  unfold f_sideOf_11 at hf
  cases hf
  exact hret H locs _ ls hM rfl dX12_sideOf_11
def f_sideOf_0 (x0 : Int32) (I : Nat → Int32) (A : Nat → Nat → Int32) : Option (Int32 × MS) :=
  m_if (x0 = 0) (
  f_sideOf_11 (-1 : Int32) I A
  ) (
  m_bnd (x0 >>> ((3 : Int32) &&& 31)) (fun v1 =>
  f_sideOf_11 v1 I A)
  )

set_option maxRecDepth 100000 in
set_option maxHeartbeats 4000000 in
theorem w_sideOf_0 {p : Program} {l : Launch} {e : Env} {s : State} {m : MethodId} {args : Array Value} {below : List Frame} {meth : Method} {c : Code} {Q : State → Prop} {D : va_G} {cy ci : ClassId} {h : Nat → Nat} {A0 : Nat → Prop} {o : Int32 × MS} (X : CallFix p m c cX12_sideOf 1 s args wsX12_sideOf RX12) (hret : mRi p l e ({ frames := 0, cells := 0, slots := 0, locals := 0 } : Room) s m args below meth c Q cX12_sideOf D cy ci h A0 .int o) {x0 : Int32} {I : Nat → Int32} {A : Nat → Nat → Int32} {H : Heap} {locs : List Loc} {ls : Array Slot} (hf : f_sideOf_0 x0 I A = some o) (hM : mH D cy ci h A0 s H locs I A) (hl : lv_has ls 1 [(0, .int x0)]) : W p l e ({ frames := 0, cells := 0, slots := 0, locals := 0 } : Room) s m args below meth c H locs 0 0 Q (F0 m 0 ls []) := by
  obtain ⟨hx, hb, hml, hown, hts⟩ := id X
  unfold f_sideOf_0 at hf
  refine lv_iload_n hx hb dX12_sideOf_0 rfl (lv_at hl 0 rfl) ?_
  refine lv_if_ne (tgt := 8) hx hb dX12_sideOf_1 (by decide) (fun cc1 => ?_) (fun cc1 => ?_)
  · replace hf := m_ifF hf cc1
    refine lv_iload_n hx hb dX12_sideOf_8 rfl (lv_at hl 0 rfl) ?_
    refine lv_iconst (v := (3 : Int32)) hx hb dX12_sideOf_9 (by decide) ?_
    refine lv_ishr hx hb dX12_sideOf_10 ?_
    obtain ⟨v1, ev, hf⟩ := m_bndE hf
    refine m_top ev ?_
    clear ev
    exact w_sideOf_11 X hret hf hM (lv_sub hl [] rfl)
  · replace hf := m_ifT hf cc1
    refine lv_iconst (v := (-1 : Int32)) hx hb dX12_sideOf_4 (by decide) ?_
    refine lv_goto (tgt := 11) hx hb dX12_sideOf_5 (by decide) ?_
    exact w_sideOf_11 X hret hf hM (lv_sub hl [] rfl)
def f_sideOf (x0 : Int32) (I : Nat → Int32) (A : Nat → Nat → Int32) : Option (Int32 × MS) := f_sideOf_0 x0 I A
theorem c_sideOf {l : Launch} {D : va_G} {cy ci : ClassId} {h : Nat → Nat} {x0 : Int32} {I : Nat → Int32} {A : Nat → Nat → Int32} {o : Int32 × MS} (hf : f_sideOf x0 I A = some o) : mMi l yX12_sideOf wsX12_sideOf ({ frames := 0, cells := 0, slots := 0, locals := 0 } : Room) [.int x0] D cy ci h I A o :=
  m_entryI (cc := cX12_sideOf) (maxL := 1) (by decide) rfl rfl (Nat.le_of_ble_eq_true rfl) (fun p e s m args below meth c A0 Q H locs ls X hret hM hl => w_sideOf_0 X hret hf hM (lv_sub hl [0] rfl))
theorem hw_pawnGoes : ∀ w ∈ wsX120, w ∈ wsX12_pawnGoes := by decide +kernel
theorem fl_pawnGoes_24 : Cond.fieldLink RX12 70 "MoveTextsModel" "men" "[I" ∈ wsX12_pawnGoes := by decide +kernel
theorem fl_pawnGoes_25 : Cond.fieldLink RX12 121 "MoveTextsModel" "side" "I" ∈ wsX12_pawnGoes := by decide +kernel
theorem fl_pawnGoes_27 : Cond.fieldLink RX12 127 "MoveTextsModel" "passed" "I" ∈ wsX12_pawnGoes := by decide +kernel
theorem hd_pawnGoes : yX12_pawnGoes.cls = RX12 ∧ yX12_pawnGoes.cls ≠ "java/lang/invoke/MethodHandle" ∧ yX12_pawnGoes.cls ≠ "java/lang/invoke/VarHandle" ∧ (parseMethodDescriptor yX12_pawnGoes.desc).map (fun d => d.parameters.length) = some 2 := by decide +kernel
def f_pawnGoes_162 (t0 : Int32) (I : Nat → Int32) (A : Nat → Nat → Int32) : Option (Int32 × MS) :=
  m_chk (vp_nar .boolean t0 = t0) (some (t0, (I, A)))

set_option maxRecDepth 100000 in
set_option maxHeartbeats 4000000 in
theorem w_pawnGoes_162 {p : Program} {l : Launch} {e : Env} {s : State} {m : MethodId} {args : Array Value} {below : List Frame} {meth : Method} {c : Code} {Q : State → Prop} {D : va_G} {cy ci : ClassId} {h : Nat → Nat} {A0 : Nat → Prop} {o : Int32 × MS} (X : CallFix p m c cX12_pawnGoes 5 s args wsX12_pawnGoes RX12) (hret : mRi p l e ({ frames := 1, cells := 0, slots := 0, locals := 20 } : Room) s m args below meth c Q cX12_pawnGoes D cy ci h A0 .boolean o) {t0 : Int32} {I : Nat → Int32} {A : Nat → Nat → Int32} {H : Heap} {locs : List Loc} {ls : Array Slot} (hf : f_pawnGoes_162 t0 I A = some o) (hM : mH D cy ci h A0 s H locs I A) (hl : lv_has ls 5 []) : W p l e ({ frames := 1, cells := 0, slots := 0, locals := 20 } : Room) s m args below meth c H locs 0 0 Q (F0 m 162 ls [.int t0]) := by
  obtain ⟨hx, hb, hml, hown, hts⟩ := id X
  unfold f_pawnGoes_162 at hf
  obtain ⟨cd, hf⟩ := m_chkE hf
  cases hf
  exact hret H locs _ ls hM (m_nb cd) dX12_pawnGoes_162
def f_pawnGoes_161 (I : Nat → Int32) (A : Nat → Nat → Int32) : Option (Int32 × MS) :=
  f_pawnGoes_162 (0 : Int32) I A

set_option maxRecDepth 100000 in
set_option maxHeartbeats 4000000 in
theorem w_pawnGoes_161 {p : Program} {l : Launch} {e : Env} {s : State} {m : MethodId} {args : Array Value} {below : List Frame} {meth : Method} {c : Code} {Q : State → Prop} {D : va_G} {cy ci : ClassId} {h : Nat → Nat} {A0 : Nat → Prop} {o : Int32 × MS} (X : CallFix p m c cX12_pawnGoes 5 s args wsX12_pawnGoes RX12) (hret : mRi p l e ({ frames := 1, cells := 0, slots := 0, locals := 20 } : Room) s m args below meth c Q cX12_pawnGoes D cy ci h A0 .boolean o) {I : Nat → Int32} {A : Nat → Nat → Int32} {H : Heap} {locs : List Loc} {ls : Array Slot} (hf : f_pawnGoes_161  I A = some o) (hM : mH D cy ci h A0 s H locs I A) (hl : lv_has ls 5 []) : W p l e ({ frames := 1, cells := 0, slots := 0, locals := 20 } : Room) s m args below meth c H locs 0 0 Q (F0 m 161 ls []) := by
  obtain ⟨hx, hb, hml, hown, hts⟩ := id X
  unfold f_pawnGoes_161 at hf
  refine lv_iconst (v := (0 : Int32)) hx hb dX12_pawnGoes_161 (by decide) ?_
  exact w_pawnGoes_162 X hret hf hM (lv_sub hl [] rfl)
def f_pawnGoes_157 (I : Nat → Int32) (A : Nat → Nat → Int32) : Option (Int32 × MS) :=
  f_pawnGoes_162 (1 : Int32) I A

set_option maxRecDepth 100000 in
set_option maxHeartbeats 4000000 in
theorem w_pawnGoes_157 {p : Program} {l : Launch} {e : Env} {s : State} {m : MethodId} {args : Array Value} {below : List Frame} {meth : Method} {c : Code} {Q : State → Prop} {D : va_G} {cy ci : ClassId} {h : Nat → Nat} {A0 : Nat → Prop} {o : Int32 × MS} (X : CallFix p m c cX12_pawnGoes 5 s args wsX12_pawnGoes RX12) (hret : mRi p l e ({ frames := 1, cells := 0, slots := 0, locals := 20 } : Room) s m args below meth c Q cX12_pawnGoes D cy ci h A0 .boolean o) {I : Nat → Int32} {A : Nat → Nat → Int32} {H : Heap} {locs : List Loc} {ls : Array Slot} (hf : f_pawnGoes_157  I A = some o) (hM : mH D cy ci h A0 s H locs I A) (hl : lv_has ls 5 []) : W p l e ({ frames := 1, cells := 0, slots := 0, locals := 20 } : Room) s m args below meth c H locs 0 0 Q (F0 m 157 ls []) := by
  obtain ⟨hx, hb, hml, hown, hts⟩ := id X
  unfold f_pawnGoes_157 at hf
  refine lv_iconst (v := (1 : Int32)) hx hb dX12_pawnGoes_157 (by decide) ?_
  refine lv_goto (tgt := 162) hx hb dX12_pawnGoes_158 (by decide) ?_
  exact w_pawnGoes_162 X hret hf hM (lv_sub hl [] rfl)
def f_pawnGoes_131 (x2 : Int32) (I : Nat → Int32) (A : Nat → Nat → Int32) : Option (Int32 × MS) :=
  m_chk (¬ (x2 < 0 ∨ 64 ≤ (x2).toNatClampNeg)) (
  m_bnd (A 24 (x2).toNatClampNeg) (fun v1 =>
  m_cl (f_sideOf v1 I A) (fun r2 Ic2 Ac2 =>
  m_bnd ((1 : Int32) - (Ic2 25)) (fun v3 =>
  m_if (r2 = v3) (
  f_pawnGoes_157  Ic2 Ac2
  ) (
  m_if (x2 = (Ic2 27)) (
  f_pawnGoes_157  Ic2 Ac2
  ) (
  f_pawnGoes_161  Ic2 Ac2
  )
  )))))

set_option maxRecDepth 100000 in
set_option maxHeartbeats 4000000 in
theorem w_pawnGoes_131 {p : Program} {l : Launch} {e : Env} {s : State} {m : MethodId} {args : Array Value} {below : List Frame} {meth : Method} {c : Code} {Q : State → Prop} {D : va_G} {cy ci : ClassId} {h : Nat → Nat} {A0 : Nat → Prop} {o : Int32 × MS} (X : CallFix p m c cX12_pawnGoes 5 s args wsX12_pawnGoes RX12) (hret : mRi p l e ({ frames := 1, cells := 0, slots := 0, locals := 20 } : Room) s m args below meth c Q cX12_pawnGoes D cy ci h A0 .boolean o) {x2 : Int32} {I : Nat → Int32} {A : Nat → Nat → Int32} {H : Heap} {locs : List Loc} {ls : Array Slot} (hf : f_pawnGoes_131 x2 I A = some o) (hM : mH D cy ci h A0 s H locs I A) (hl : lv_has ls 5 [(0, .ref (h 0)), (2, .int x2)]) : W p l e ({ frames := 1, cells := 0, slots := 0, locals := 20 } : Room) s m args below meth c H locs 0 0 Q (F0 m 131 ls []) := by
  obtain ⟨hx, hb, hml, hown, hts⟩ := id X
  unfold f_pawnGoes_131 at hf
  refine lv_aload_n hx hb dX12_pawnGoes_131 rfl (lv_at hl 0 rfl) ?_
  refine m_get (v := .ref (h 24)) X hw_pawnGoes hM 24 (by decide) fl_pawnGoes_24 rfl dX12_pawnGoes_132 ?_
  refine lv_iload_n hx hb dX12_pawnGoes_135 rfl (lv_at hl 1 rfl) ?_
  obtain ⟨cd, hf⟩ := m_chkE hf
  refine m_iald X hM 24 20 64 rfl cd dX12_pawnGoes_136 ?_
  clear cd
  obtain ⟨v1, ev, hf⟩ := m_bndE hf
  refine m_top ev ?_
  clear ev
  obtain ⟨o2, ho, hf⟩ := m_clE hf
  refine m_callSi X hM (c_sideOf ho) gX12_pawnGoes_X12_sideOf rfl ⟨rfl, rfl⟩ hd_sideOf ⟨Nat.le_of_ble_eq_true rfl, Nat.le_of_ble_eq_true rfl⟩ rfl hl.1 rfl (Nat.le_of_ble_eq_true rfl) dX12_pawnGoes_137 (fun H locs hM => ?_)
  clear ho
  refine lv_iconst (v := (1 : Int32)) hx hb dX12_pawnGoes_140 (by decide) ?_
  refine lv_aload_n hx hb dX12_pawnGoes_141 rfl (lv_at hl 0 rfl) ?_
  refine m_get (v := .int (o2.2.1 25)) X hw_pawnGoes hM 25 (by decide) fl_pawnGoes_25 rfl dX12_pawnGoes_142 ?_
  refine lv_isub hx hb dX12_pawnGoes_145 ?_
  obtain ⟨v3, ev, hf⟩ := m_bndE hf
  refine m_top ev ?_
  clear ev
  refine lv_icmp_eq (tgt := 157) hx hb dX12_pawnGoes_146 (by decide) (fun cc1 => ?_) (fun cc1 => ?_)
  · replace hf := m_ifT hf cc1
    exact w_pawnGoes_157 X hret hf hM (lv_sub hl [] rfl)
  · replace hf := m_ifF hf cc1
    refine lv_iload_n hx hb dX12_pawnGoes_149 rfl (lv_at hl 1 rfl) ?_
    refine lv_aload_n hx hb dX12_pawnGoes_150 rfl (lv_at hl 0 rfl) ?_
    refine m_get (v := .int (o2.2.1 27)) X hw_pawnGoes hM 27 (by decide) fl_pawnGoes_27 rfl dX12_pawnGoes_151 ?_
    refine lv_icmp_ne (tgt := 161) hx hb dX12_pawnGoes_154 (by decide) (fun cc1 => ?_) (fun cc1 => ?_)
    · replace hf := m_ifF hf cc1
      exact w_pawnGoes_161 X hret hf hM (lv_sub hl [] rfl)
    · replace hf := m_ifT hf cc1
      exact w_pawnGoes_157 X hret hf hM (lv_sub hl [] rfl)
def f_pawnGoes_91 (t0 : Int32) (I : Nat → Int32) (A : Nat → Nat → Int32) : Option (Int32 × MS) :=
  m_chk (vp_nar .boolean t0 = t0) (some (t0, (I, A)))

set_option maxRecDepth 100000 in
set_option maxHeartbeats 4000000 in
theorem w_pawnGoes_91 {p : Program} {l : Launch} {e : Env} {s : State} {m : MethodId} {args : Array Value} {below : List Frame} {meth : Method} {c : Code} {Q : State → Prop} {D : va_G} {cy ci : ClassId} {h : Nat → Nat} {A0 : Nat → Prop} {o : Int32 × MS} (X : CallFix p m c cX12_pawnGoes 5 s args wsX12_pawnGoes RX12) (hret : mRi p l e ({ frames := 1, cells := 0, slots := 0, locals := 20 } : Room) s m args below meth c Q cX12_pawnGoes D cy ci h A0 .boolean o) {t0 : Int32} {I : Nat → Int32} {A : Nat → Nat → Int32} {H : Heap} {locs : List Loc} {ls : Array Slot} (hf : f_pawnGoes_91 t0 I A = some o) (hM : mH D cy ci h A0 s H locs I A) (hl : lv_has ls 5 []) : W p l e ({ frames := 1, cells := 0, slots := 0, locals := 20 } : Room) s m args below meth c H locs 0 0 Q (F0 m 91 ls [.int t0]) := by
  obtain ⟨hx, hb, hml, hown, hts⟩ := id X
  unfold f_pawnGoes_91 at hf
  obtain ⟨cd, hf⟩ := m_chkE hf
  cases hf
  exact hret H locs _ ls hM (m_nb cd) dX12_pawnGoes_91
def f_pawnGoes_90 (I : Nat → Int32) (A : Nat → Nat → Int32) : Option (Int32 × MS) :=
  f_pawnGoes_91 (0 : Int32) I A

set_option maxRecDepth 100000 in
set_option maxHeartbeats 4000000 in
theorem w_pawnGoes_90 {p : Program} {l : Launch} {e : Env} {s : State} {m : MethodId} {args : Array Value} {below : List Frame} {meth : Method} {c : Code} {Q : State → Prop} {D : va_G} {cy ci : ClassId} {h : Nat → Nat} {A0 : Nat → Prop} {o : Int32 × MS} (X : CallFix p m c cX12_pawnGoes 5 s args wsX12_pawnGoes RX12) (hret : mRi p l e ({ frames := 1, cells := 0, slots := 0, locals := 20 } : Room) s m args below meth c Q cX12_pawnGoes D cy ci h A0 .boolean o) {I : Nat → Int32} {A : Nat → Nat → Int32} {H : Heap} {locs : List Loc} {ls : Array Slot} (hf : f_pawnGoes_90  I A = some o) (hM : mH D cy ci h A0 s H locs I A) (hl : lv_has ls 5 []) : W p l e ({ frames := 1, cells := 0, slots := 0, locals := 20 } : Room) s m args below meth c H locs 0 0 Q (F0 m 90 ls []) := by
  obtain ⟨hx, hb, hml, hown, hts⟩ := id X
  unfold f_pawnGoes_90 at hf
  refine lv_iconst (v := (0 : Int32)) hx hb dX12_pawnGoes_90 (by decide) ?_
  exact w_pawnGoes_91 X hret hf hM (lv_sub hl [] rfl)
def f_pawnGoes_63 (x1 : Int32) (x2 : Int32) (x3 : Int32) (t0 : Int32) (t1 : Int32) (I : Nat → Int32) (A : Nat → Nat → Int32) : Option (Int32 × MS) :=
  m_if (t1 = t0) (
  m_bnd (x1 + x3) (fun v1 =>
  m_chk (¬ (v1 < 0 ∨ 64 ≤ (v1).toNatClampNeg)) (
  m_bnd (A 24 (v1).toNatClampNeg) (fun v2 =>
  m_if (v2 = 0) (
  m_chk (¬ (x2 < 0 ∨ 64 ≤ (x2).toNatClampNeg)) (
  m_bnd (A 24 (x2).toNatClampNeg) (fun v3 =>
  m_if (v3 = 0) (
  f_pawnGoes_91 (1 : Int32) I A
  ) (
  f_pawnGoes_90  I A
  )))
  ) (
  f_pawnGoes_90  I A
  ))))
  ) (
  f_pawnGoes_90  I A
  )

set_option maxRecDepth 100000 in
set_option maxHeartbeats 4000000 in
theorem w_pawnGoes_63 {p : Program} {l : Launch} {e : Env} {s : State} {m : MethodId} {args : Array Value} {below : List Frame} {meth : Method} {c : Code} {Q : State → Prop} {D : va_G} {cy ci : ClassId} {h : Nat → Nat} {A0 : Nat → Prop} {o : Int32 × MS} (X : CallFix p m c cX12_pawnGoes 5 s args wsX12_pawnGoes RX12) (hret : mRi p l e ({ frames := 1, cells := 0, slots := 0, locals := 20 } : Room) s m args below meth c Q cX12_pawnGoes D cy ci h A0 .boolean o) {x1 : Int32} {x2 : Int32} {x3 : Int32} {t0 : Int32} {t1 : Int32} {I : Nat → Int32} {A : Nat → Nat → Int32} {H : Heap} {locs : List Loc} {ls : Array Slot} (hf : f_pawnGoes_63 x1 x2 x3 t0 t1 I A = some o) (hM : mH D cy ci h A0 s H locs I A) (hl : lv_has ls 5 [(0, .ref (h 0)), (1, .int x1), (2, .int x2), (3, .int x3)]) : W p l e ({ frames := 1, cells := 0, slots := 0, locals := 20 } : Room) s m args below meth c H locs 0 0 Q (F0 m 63 ls [.int t0, .int t1]) := by
  obtain ⟨hx, hb, hml, hown, hts⟩ := id X
  unfold f_pawnGoes_63 at hf
  refine lv_icmp_ne (tgt := 90) hx hb dX12_pawnGoes_63 (by decide) (fun cc1 => ?_) (fun cc1 => ?_)
  · replace hf := m_ifF hf cc1
    exact w_pawnGoes_90 X hret hf hM (lv_sub hl [] rfl)
  · replace hf := m_ifT hf cc1
    refine lv_aload_n hx hb dX12_pawnGoes_66 rfl (lv_at hl 0 rfl) ?_
    refine m_get (v := .ref (h 24)) X hw_pawnGoes hM 24 (by decide) fl_pawnGoes_24 rfl dX12_pawnGoes_67 ?_
    refine lv_iload_n hx hb dX12_pawnGoes_70 rfl (lv_at hl 1 rfl) ?_
    refine lv_iload_n hx hb dX12_pawnGoes_71 rfl (lv_at hl 3 rfl) ?_
    refine lv_iadd hx hb dX12_pawnGoes_72 ?_
    obtain ⟨v1, ev, hf⟩ := m_bndE hf
    refine m_top ev ?_
    clear ev
    obtain ⟨cd, hf⟩ := m_chkE hf
    refine m_iald X hM 24 20 64 rfl cd dX12_pawnGoes_73 ?_
    clear cd
    obtain ⟨v2, ev, hf⟩ := m_bndE hf
    refine m_top ev ?_
    clear ev
    refine lv_if_ne (tgt := 90) hx hb dX12_pawnGoes_74 (by decide) (fun cc1 => ?_) (fun cc1 => ?_)
    · replace hf := m_ifF hf cc1
      exact w_pawnGoes_90 X hret hf hM (lv_sub hl [] rfl)
    · replace hf := m_ifT hf cc1
      refine lv_aload_n hx hb dX12_pawnGoes_77 rfl (lv_at hl 0 rfl) ?_
      refine m_get (v := .ref (h 24)) X hw_pawnGoes hM 24 (by decide) fl_pawnGoes_24 rfl dX12_pawnGoes_78 ?_
      refine lv_iload_n hx hb dX12_pawnGoes_81 rfl (lv_at hl 2 rfl) ?_
      obtain ⟨cd, hf⟩ := m_chkE hf
      refine m_iald X hM 24 20 64 rfl cd dX12_pawnGoes_82 ?_
      clear cd
      obtain ⟨v3, ev, hf⟩ := m_bndE hf
      refine m_top ev ?_
      clear ev
      refine lv_if_ne (tgt := 90) hx hb dX12_pawnGoes_83 (by decide) (fun cc1 => ?_) (fun cc1 => ?_)
      · replace hf := m_ifF hf cc1
        exact w_pawnGoes_90 X hret hf hM (lv_sub hl [] rfl)
      · replace hf := m_ifT hf cc1
        refine lv_iconst (v := (1 : Int32)) hx hb dX12_pawnGoes_86 (by decide) ?_
        refine lv_goto (tgt := 91) hx hb dX12_pawnGoes_87 (by decide) ?_
        exact w_pawnGoes_91 X hret hf hM (lv_sub hl [] rfl)
def f_pawnGoes_36 (t0 : Int32) (I : Nat → Int32) (A : Nat → Nat → Int32) : Option (Int32 × MS) :=
  m_chk (vp_nar .boolean t0 = t0) (some (t0, (I, A)))

set_option maxRecDepth 100000 in
set_option maxHeartbeats 4000000 in
theorem w_pawnGoes_36 {p : Program} {l : Launch} {e : Env} {s : State} {m : MethodId} {args : Array Value} {below : List Frame} {meth : Method} {c : Code} {Q : State → Prop} {D : va_G} {cy ci : ClassId} {h : Nat → Nat} {A0 : Nat → Prop} {o : Int32 × MS} (X : CallFix p m c cX12_pawnGoes 5 s args wsX12_pawnGoes RX12) (hret : mRi p l e ({ frames := 1, cells := 0, slots := 0, locals := 20 } : Room) s m args below meth c Q cX12_pawnGoes D cy ci h A0 .boolean o) {t0 : Int32} {I : Nat → Int32} {A : Nat → Nat → Int32} {H : Heap} {locs : List Loc} {ls : Array Slot} (hf : f_pawnGoes_36 t0 I A = some o) (hM : mH D cy ci h A0 s H locs I A) (hl : lv_has ls 5 []) : W p l e ({ frames := 1, cells := 0, slots := 0, locals := 20 } : Room) s m args below meth c H locs 0 0 Q (F0 m 36 ls [.int t0]) := by
  obtain ⟨hx, hb, hml, hown, hts⟩ := id X
  unfold f_pawnGoes_36 at hf
  obtain ⟨cd, hf⟩ := m_chkE hf
  cases hf
  exact hret H locs _ ls hM (m_nb cd) dX12_pawnGoes_36
def f_pawnGoes_14 (x1 : Int32) (x2 : Int32) (t0 : Int32) (I : Nat → Int32) (A : Nat → Nat → Int32) : Option (Int32 × MS) :=
  m_bnd (x1 + t0) (fun v1 =>
  m_if (x2 = v1) (
  m_chk (¬ (x2 < 0 ∨ 64 ≤ (x2).toNatClampNeg)) (
  m_bnd (A 24 (x2).toNatClampNeg) (fun v12 =>
  m_if (v12 = 0) (
  f_pawnGoes_36 (1 : Int32) I A
  ) (
  f_pawnGoes_36 (0 : Int32) I A
  )))
  ) (
  m_bnd ((2 : Int32) * t0) (fun v2 =>
  m_bnd (x1 + v2) (fun v3 =>
  m_if (x2 = v3) (
  m_bnd (x1 / (8 : Int32)) (fun v11 =>
  m_if ((I 25) = 0) (
  f_pawnGoes_63 x1 x2 t0 (1 : Int32) v11 I A
  ) (
  f_pawnGoes_63 x1 x2 t0 (6 : Int32) v11 I A
  ))
  ) (
  m_bnd (x2 - x2 / (8 : Int32) * (8 : Int32)) (fun v4 =>
  m_bnd (x1 - x1 / (8 : Int32) * (8 : Int32)) (fun v5 =>
  m_bnd (v4 - v5) (fun v6 =>
  m_bnd (x2 / (8 : Int32)) (fun v7 =>
  m_bnd (x1 / (8 : Int32)) (fun v8 =>
  m_bnd (t0 / (8 : Int32)) (fun v9 =>
  m_bnd (v8 + v9) (fun v10 =>
  m_if (v7 = v10) (
  m_if (v6 = (1 : Int32)) (
  f_pawnGoes_131 x2 I A
  ) (
  m_if (v6 = (-1 : Int32)) (
  f_pawnGoes_131 x2 I A
  ) (
  f_pawnGoes_161  I A
  )
  )
  ) (
  f_pawnGoes_161  I A
  ))))))))
  )))
  ))

set_option maxRecDepth 100000 in
set_option maxHeartbeats 4000000 in
theorem w_pawnGoes_14 {p : Program} {l : Launch} {e : Env} {s : State} {m : MethodId} {args : Array Value} {below : List Frame} {meth : Method} {c : Code} {Q : State → Prop} {D : va_G} {cy ci : ClassId} {h : Nat → Nat} {A0 : Nat → Prop} {o : Int32 × MS} (X : CallFix p m c cX12_pawnGoes 5 s args wsX12_pawnGoes RX12) (hret : mRi p l e ({ frames := 1, cells := 0, slots := 0, locals := 20 } : Room) s m args below meth c Q cX12_pawnGoes D cy ci h A0 .boolean o) {x1 : Int32} {x2 : Int32} {t0 : Int32} {I : Nat → Int32} {A : Nat → Nat → Int32} {H : Heap} {locs : List Loc} {ls : Array Slot} (hf : f_pawnGoes_14 x1 x2 t0 I A = some o) (hM : mH D cy ci h A0 s H locs I A) (hl : lv_has ls 5 [(0, .ref (h 0)), (1, .int x1), (2, .int x2)]) : W p l e ({ frames := 1, cells := 0, slots := 0, locals := 20 } : Room) s m args below meth c H locs 0 0 Q (F0 m 14 ls [.int t0]) := by
  obtain ⟨hx, hb, hml, hown, hts⟩ := id X
  unfold f_pawnGoes_14 at hf
  refine lv_istore_n (lv' := [(3, .int t0), (0, .ref (h 0)), (1, .int x1), (2, .int x2)]) hx hb dX12_pawnGoes_14 rfl hl (by decide) rfl (fun ls hl => ?_)
  refine lv_iload_n hx hb dX12_pawnGoes_15 rfl (lv_at hl 3 rfl) ?_
  refine lv_iload_n hx hb dX12_pawnGoes_16 rfl (lv_at hl 2 rfl) ?_
  refine lv_iload_n hx hb dX12_pawnGoes_17 rfl (lv_at hl 0 rfl) ?_
  refine lv_iadd hx hb dX12_pawnGoes_18 ?_
  obtain ⟨v1, ev, hf⟩ := m_bndE hf
  refine m_top ev ?_
  clear ev
  refine lv_icmp_ne (tgt := 37) hx hb dX12_pawnGoes_19 (by decide) (fun cc1 => ?_) (fun cc1 => ?_)
  · replace hf := m_ifF hf cc1
    refine lv_iload_n hx hb dX12_pawnGoes_37 rfl (lv_at hl 3 rfl) ?_
    refine lv_iload_n hx hb dX12_pawnGoes_38 rfl (lv_at hl 2 rfl) ?_
    refine lv_iconst (v := (2 : Int32)) hx hb dX12_pawnGoes_39 (by decide) ?_
    refine lv_iload_n hx hb dX12_pawnGoes_40 rfl (lv_at hl 0 rfl) ?_
    refine lv_imul hx hb dX12_pawnGoes_41 ?_
    obtain ⟨v2, ev, hf⟩ := m_bndE hf
    refine m_top ev ?_
    clear ev
    refine lv_iadd hx hb dX12_pawnGoes_42 ?_
    obtain ⟨v3, ev, hf⟩ := m_bndE hf
    refine m_top ev ?_
    clear ev
    refine lv_icmp_ne (tgt := 92) hx hb dX12_pawnGoes_43 (by decide) (fun cc1 => ?_) (fun cc1 => ?_)
    · replace hf := m_ifF hf cc1
      refine lv_iload_n hx hb dX12_pawnGoes_92 rfl (lv_at hl 3 rfl) ?_
      refine lv_bipush (v := (8 : Int32)) hx hb dX12_pawnGoes_93 (by decide) ?_
      refine lv_irem hx hb dX12_pawnGoes_95 (by decide) ?_
      obtain ⟨v4, ev, hf⟩ := m_bndE hf
      refine m_top ev ?_
      clear ev
      refine lv_iload_n hx hb dX12_pawnGoes_96 rfl (lv_at hl 2 rfl) ?_
      refine lv_bipush (v := (8 : Int32)) hx hb dX12_pawnGoes_97 (by decide) ?_
      refine lv_irem hx hb dX12_pawnGoes_99 (by decide) ?_
      obtain ⟨v5, ev, hf⟩ := m_bndE hf
      refine m_top ev ?_
      clear ev
      refine lv_isub hx hb dX12_pawnGoes_100 ?_
      obtain ⟨v6, ev, hf⟩ := m_bndE hf
      refine m_top ev ?_
      clear ev
      refine lv_istore (lv' := [(4, .int v6), (3, .int t0), (0, .ref (h 0)), (1, .int x1), (2, .int x2)]) hx hb dX12_pawnGoes_101 hl (by decide) rfl (fun ls hl => ?_)
      refine lv_iload_n hx hb dX12_pawnGoes_103 rfl (lv_at hl 4 rfl) ?_
      refine lv_bipush (v := (8 : Int32)) hx hb dX12_pawnGoes_104 (by decide) ?_
      refine lv_idiv hx hb dX12_pawnGoes_106 (by decide) ?_
      obtain ⟨v7, ev, hf⟩ := m_bndE hf
      refine m_top ev ?_
      clear ev
      refine lv_iload_n hx hb dX12_pawnGoes_107 rfl (lv_at hl 3 rfl) ?_
      refine lv_bipush (v := (8 : Int32)) hx hb dX12_pawnGoes_108 (by decide) ?_
      refine lv_idiv hx hb dX12_pawnGoes_110 (by decide) ?_
      obtain ⟨v8, ev, hf⟩ := m_bndE hf
      refine m_top ev ?_
      clear ev
      refine lv_iload_n hx hb dX12_pawnGoes_111 rfl (lv_at hl 1 rfl) ?_
      refine lv_bipush (v := (8 : Int32)) hx hb dX12_pawnGoes_112 (by decide) ?_
      refine lv_idiv hx hb dX12_pawnGoes_114 (by decide) ?_
      obtain ⟨v9, ev, hf⟩ := m_bndE hf
      refine m_top ev ?_
      clear ev
      refine lv_iadd hx hb dX12_pawnGoes_115 ?_
      obtain ⟨v10, ev, hf⟩ := m_bndE hf
      refine m_top ev ?_
      clear ev
      refine lv_icmp_ne (tgt := 161) hx hb dX12_pawnGoes_116 (by decide) (fun cc1 => ?_) (fun cc1 => ?_)
      · replace hf := m_ifF hf cc1
        exact w_pawnGoes_161 X hret hf hM (lv_sub hl [] rfl)
      · replace hf := m_ifT hf cc1
        refine lv_iload hx hb dX12_pawnGoes_119 (lv_at hl 0 rfl) ?_
        refine lv_iconst (v := (1 : Int32)) hx hb dX12_pawnGoes_121 (by decide) ?_
        refine lv_icmp_eq (tgt := 131) hx hb dX12_pawnGoes_122 (by decide) (fun cc1 => ?_) (fun cc1 => ?_)
        · replace hf := m_ifT hf cc1
          exact w_pawnGoes_131 X hret hf hM (lv_sub hl [2, 4] rfl)
        · replace hf := m_ifF hf cc1
          refine lv_iload hx hb dX12_pawnGoes_125 (lv_at hl 0 rfl) ?_
          refine lv_iconst (v := (-1 : Int32)) hx hb dX12_pawnGoes_127 (by decide) ?_
          refine lv_icmp_ne (tgt := 161) hx hb dX12_pawnGoes_128 (by decide) (fun cc1 => ?_) (fun cc1 => ?_)
          · replace hf := m_ifF hf cc1
            exact w_pawnGoes_161 X hret hf hM (lv_sub hl [] rfl)
          · replace hf := m_ifT hf cc1
            exact w_pawnGoes_131 X hret hf hM (lv_sub hl [2, 4] rfl)
    · replace hf := m_ifT hf cc1
      refine lv_iload_n hx hb dX12_pawnGoes_46 rfl (lv_at hl 2 rfl) ?_
      refine lv_bipush (v := (8 : Int32)) hx hb dX12_pawnGoes_47 (by decide) ?_
      refine lv_idiv hx hb dX12_pawnGoes_49 (by decide) ?_
      obtain ⟨v11, ev, hf⟩ := m_bndE hf
      refine m_top ev ?_
      clear ev
      refine lv_aload_n hx hb dX12_pawnGoes_50 rfl (lv_at hl 1 rfl) ?_
      refine m_get (v := .int (I 25)) X hw_pawnGoes hM 25 (by decide) fl_pawnGoes_25 rfl dX12_pawnGoes_51 ?_
      refine lv_if_ne (tgt := 61) hx hb dX12_pawnGoes_54 (by decide) (fun cc1 => ?_) (fun cc1 => ?_)
      · replace hf := m_ifF hf cc1
        refine lv_bipush (v := (6 : Int32)) hx hb dX12_pawnGoes_61 (by decide) ?_
        exact w_pawnGoes_63 X hret hf hM (lv_sub hl [1, 2, 3, 0] rfl)
      · replace hf := m_ifT hf cc1
        refine lv_iconst (v := (1 : Int32)) hx hb dX12_pawnGoes_57 (by decide) ?_
        refine lv_goto (tgt := 63) hx hb dX12_pawnGoes_58 (by decide) ?_
        exact w_pawnGoes_63 X hret hf hM (lv_sub hl [1, 2, 3, 0] rfl)
  · replace hf := m_ifT hf cc1
    refine lv_aload_n hx hb dX12_pawnGoes_22 rfl (lv_at hl 1 rfl) ?_
    refine m_get (v := .ref (h 24)) X hw_pawnGoes hM 24 (by decide) fl_pawnGoes_24 rfl dX12_pawnGoes_23 ?_
    refine lv_iload_n hx hb dX12_pawnGoes_26 rfl (lv_at hl 3 rfl) ?_
    obtain ⟨cd, hf⟩ := m_chkE hf
    refine m_iald X hM 24 20 64 rfl cd dX12_pawnGoes_27 ?_
    clear cd
    obtain ⟨v12, ev, hf⟩ := m_bndE hf
    refine m_top ev ?_
    clear ev
    refine lv_if_ne (tgt := 35) hx hb dX12_pawnGoes_28 (by decide) (fun cc1 => ?_) (fun cc1 => ?_)
    · replace hf := m_ifF hf cc1
      refine lv_iconst (v := (0 : Int32)) hx hb dX12_pawnGoes_35 (by decide) ?_
      exact w_pawnGoes_36 X hret hf hM (lv_sub hl [] rfl)
    · replace hf := m_ifT hf cc1
      refine lv_iconst (v := (1 : Int32)) hx hb dX12_pawnGoes_31 (by decide) ?_
      refine lv_goto (tgt := 36) hx hb dX12_pawnGoes_32 (by decide) ?_
      exact w_pawnGoes_36 X hret hf hM (lv_sub hl [] rfl)
def f_pawnGoes_0 (x1 : Int32) (x2 : Int32) (I : Nat → Int32) (A : Nat → Nat → Int32) : Option (Int32 × MS) :=
  m_if ((I 25) = 0) (
  f_pawnGoes_14 x1 x2 (8 : Int32) I A
  ) (
  f_pawnGoes_14 x1 x2 (-8 : Int32) I A
  )

set_option maxRecDepth 100000 in
set_option maxHeartbeats 4000000 in
theorem w_pawnGoes_0 {p : Program} {l : Launch} {e : Env} {s : State} {m : MethodId} {args : Array Value} {below : List Frame} {meth : Method} {c : Code} {Q : State → Prop} {D : va_G} {cy ci : ClassId} {h : Nat → Nat} {A0 : Nat → Prop} {o : Int32 × MS} (X : CallFix p m c cX12_pawnGoes 5 s args wsX12_pawnGoes RX12) (hret : mRi p l e ({ frames := 1, cells := 0, slots := 0, locals := 20 } : Room) s m args below meth c Q cX12_pawnGoes D cy ci h A0 .boolean o) {x1 : Int32} {x2 : Int32} {I : Nat → Int32} {A : Nat → Nat → Int32} {H : Heap} {locs : List Loc} {ls : Array Slot} (hf : f_pawnGoes_0 x1 x2 I A = some o) (hM : mH D cy ci h A0 s H locs I A) (hl : lv_has ls 5 [(0, .ref (h 0)), (1, .int x1), (2, .int x2)]) : W p l e ({ frames := 1, cells := 0, slots := 0, locals := 20 } : Room) s m args below meth c H locs 0 0 Q (F0 m 0 ls []) := by
  obtain ⟨hx, hb, hml, hown, hts⟩ := id X
  unfold f_pawnGoes_0 at hf
  refine lv_aload_n hx hb dX12_pawnGoes_0 rfl (lv_at hl 0 rfl) ?_
  refine m_get (v := .int (I 25)) X hw_pawnGoes hM 25 (by decide) fl_pawnGoes_25 rfl dX12_pawnGoes_1 ?_
  refine lv_if_ne (tgt := 12) hx hb dX12_pawnGoes_4 (by decide) (fun cc1 => ?_) (fun cc1 => ?_)
  · replace hf := m_ifF hf cc1
    refine lv_bipush (v := (-8 : Int32)) hx hb dX12_pawnGoes_12 (by decide) ?_
    exact w_pawnGoes_14 X hret hf hM (lv_sub hl [0, 1, 2] rfl)
  · replace hf := m_ifT hf cc1
    refine lv_bipush (v := (8 : Int32)) hx hb dX12_pawnGoes_7 (by decide) ?_
    refine lv_goto (tgt := 14) hx hb dX12_pawnGoes_9 (by decide) ?_
    exact w_pawnGoes_14 X hret hf hM (lv_sub hl [0, 1, 2] rfl)
def f_pawnGoes (x1 : Int32) (x2 : Int32) (I : Nat → Int32) (A : Nat → Nat → Int32) : Option (Int32 × MS) := f_pawnGoes_0 x1 x2 I A
theorem c_pawnGoes {l : Launch} {D : va_G} {cy ci : ClassId} {h : Nat → Nat} {x1 : Int32} {x2 : Int32} {I : Nat → Int32} {A : Nat → Nat → Int32} {o : Int32 × MS} (hf : f_pawnGoes x1 x2 I A = some o) : mMi l yX12_pawnGoes wsX12_pawnGoes ({ frames := 1, cells := 0, slots := 0, locals := 20 } : Room) [.ref (h 0), .int x1, .int x2] D cy ci h I A o :=
  m_entryI (cc := cX12_pawnGoes) (maxL := 5) (by decide) rfl rfl (Nat.le_of_ble_eq_true rfl) (fun p e s m args below meth c A0 Q H locs ls X hret hM hl => w_pawnGoes_0 X hret hf hM (lv_sub hl [0, 1, 2] rfl))
