theorem hw_isSafe : ∀ w ∈ wsX120, w ∈ wsX12_isSafe := by decide +kernel
theorem fl_isSafe_25 : Cond.fieldLink RX12 121 "MoveTextsModel" "side" "I" ∈ wsX12_isSafe := by decide +kernel
theorem hd_isSafe : yX12_isSafe.cls = RX12 ∧ yX12_isSafe.cls ≠ "java/lang/invoke/MethodHandle" ∧ yX12_isSafe.cls ≠ "java/lang/invoke/VarHandle" ∧ (parseMethodDescriptor yX12_isSafe.desc).map (fun d => d.parameters.length) = some 1 := by decide +kernel
def f_isSafe_27 (t0 : Int32) (I : Nat → Int32) (A : Nat → Nat → Int32) : Option (Int32 × MS) :=
  m_cl (f_bringBack  I A) (fun r1 Ic1 Ac1 =>
  m_chk (vp_nar .boolean t0 = t0) (some (t0, (Ic1, Ac1))))

set_option maxRecDepth 100000 in
set_option maxHeartbeats 4000000 in
theorem w_isSafe_27 {p : Program} {l : Launch} {e : Env} {s : State} {m : MethodId} {args : Array Value} {below : List Frame} {meth : Method} {c : Code} {Q : State → Prop} {D : va_G} {cy ci : ClassId} {h : Nat → Nat} {A0 : Nat → Prop} {o : Int32 × MS} (X : CallFix p m c cX12_isSafe 3 s args wsX12_isSafe RX12) (hret : mRi p l e ({ frames := 4, cells := 0, slots := 0, locals := 98 } : Room) s m args below meth c Q cX12_isSafe D cy ci h A0 .boolean o) {t0 : Int32} {I : Nat → Int32} {A : Nat → Nat → Int32} {H : Heap} {locs : List Loc} {ls : Array Slot} (hf : f_isSafe_27 t0 I A = some o) (hM : mH D cy ci h A0 s H locs I A) (hl : lv_has ls 3 [(0, .ref (h 0))]) : W p l e ({ frames := 4, cells := 0, slots := 0, locals := 98 } : Room) s m args below meth c H locs 0 0 Q (F0 m 27 ls [.int t0]) := by
  obtain ⟨hx, hb, hml, hown, hts⟩ := id X
  unfold f_isSafe_27 at hf
  refine lv_istore_n (lv' := [(2, .int t0), (0, .ref (h 0))]) hx hb dX12_isSafe_27 rfl hl (by decide) rfl (fun ls hl => ?_)
  refine lv_aload_n hx hb dX12_isSafe_28 rfl (lv_at hl 1 rfl) ?_
  obtain ⟨o1, ho, hf⟩ := m_clE hf
  refine m_callVv X hM (c_bringBack ho) gX12_isSafe_X12_bringBack rfl ⟨rfl, rfl⟩ hd_bringBack ⟨Nat.le_of_ble_eq_true rfl, Nat.le_of_ble_eq_true rfl⟩ rfl hl.1 rfl (Nat.le_of_ble_eq_true rfl) dX12_isSafe_29 (fun H locs hM => ?_)
  clear ho
  refine lv_iload_n hx hb dX12_isSafe_32 rfl (lv_at hl 0 rfl) ?_
  obtain ⟨cd, hf⟩ := m_chkE hf
  cases hf
  exact hret H locs _ ls hM (m_nb cd) dX12_isSafe_33
def f_isSafe_0 (x1 : Int32) (I : Nat → Int32) (A : Nat → Nat → Int32) : Option (Int32 × MS) :=
  m_cl (f_keep  I A) (fun r1 Ic1 Ac1 =>
  m_cl (f_make x1 Ic1 Ac1) (fun r2 Ic2 Ac2 =>
  m_bnd ((1 : Int32) - (Ic2 25)) (fun v3 =>
  m_cl (f_isInCheck v3 Ic2 Ac2) (fun r4 Ic4 Ac4 =>
  m_if (r4 = 0) (
  f_isSafe_27 (1 : Int32) Ic4 Ac4
  ) (
  f_isSafe_27 (0 : Int32) Ic4 Ac4
  )))))

set_option maxRecDepth 100000 in
set_option maxHeartbeats 4000000 in
theorem w_isSafe_0 {p : Program} {l : Launch} {e : Env} {s : State} {m : MethodId} {args : Array Value} {below : List Frame} {meth : Method} {c : Code} {Q : State → Prop} {D : va_G} {cy ci : ClassId} {h : Nat → Nat} {A0 : Nat → Prop} {o : Int32 × MS} (X : CallFix p m c cX12_isSafe 3 s args wsX12_isSafe RX12) (hret : mRi p l e ({ frames := 4, cells := 0, slots := 0, locals := 98 } : Room) s m args below meth c Q cX12_isSafe D cy ci h A0 .boolean o) {x1 : Int32} {I : Nat → Int32} {A : Nat → Nat → Int32} {H : Heap} {locs : List Loc} {ls : Array Slot} (hf : f_isSafe_0 x1 I A = some o) (hM : mH D cy ci h A0 s H locs I A) (hl : lv_has ls 3 [(0, .ref (h 0)), (1, .int x1)]) : W p l e ({ frames := 4, cells := 0, slots := 0, locals := 98 } : Room) s m args below meth c H locs 0 0 Q (F0 m 0 ls []) := by
  obtain ⟨hx, hb, hml, hown, hts⟩ := id X
  unfold f_isSafe_0 at hf
  refine lv_aload_n hx hb dX12_isSafe_0 rfl (lv_at hl 0 rfl) ?_
  obtain ⟨o1, ho, hf⟩ := m_clE hf
  refine m_callVv X hM (c_keep ho) gX12_isSafe_X12_keep rfl ⟨rfl, rfl⟩ hd_keep ⟨Nat.le_of_ble_eq_true rfl, Nat.le_of_ble_eq_true rfl⟩ rfl hl.1 rfl (Nat.le_of_ble_eq_true rfl) dX12_isSafe_1 (fun H locs hM => ?_)
  clear ho
  refine lv_aload_n hx hb dX12_isSafe_4 rfl (lv_at hl 0 rfl) ?_
  refine lv_iload_n hx hb dX12_isSafe_5 rfl (lv_at hl 1 rfl) ?_
  obtain ⟨o2, ho, hf⟩ := m_clE hf
  refine m_callVv X hM (c_make ho) gX12_isSafe_X12_make rfl ⟨rfl, rfl⟩ hd_make ⟨Nat.le_of_ble_eq_true rfl, Nat.le_of_ble_eq_true rfl⟩ rfl hl.1 rfl (Nat.le_of_ble_eq_true rfl) dX12_isSafe_6 (fun H locs hM => ?_)
  clear ho
  refine lv_aload_n hx hb dX12_isSafe_9 rfl (lv_at hl 0 rfl) ?_
  refine lv_iconst (v := (1 : Int32)) hx hb dX12_isSafe_10 (by decide) ?_
  refine lv_aload_n hx hb dX12_isSafe_11 rfl (lv_at hl 0 rfl) ?_
  refine m_get (v := .int (o2.2.1 25)) X hw_isSafe hM 25 (by decide) fl_isSafe_25 rfl dX12_isSafe_12 ?_
  refine lv_isub hx hb dX12_isSafe_15 ?_
  obtain ⟨v3, ev, hf⟩ := m_bndE hf
  refine m_top ev ?_
  clear ev
  obtain ⟨o4, ho, hf⟩ := m_clE hf
  refine m_callVi X hM (c_isInCheck ho) gX12_isSafe_X12_isInCheck rfl ⟨rfl, rfl⟩ hd_isInCheck ⟨Nat.le_of_ble_eq_true rfl, Nat.le_of_ble_eq_true rfl⟩ rfl hl.1 rfl (Nat.le_of_ble_eq_true rfl) dX12_isSafe_16 (fun H locs hM => ?_)
  clear ho
  refine lv_if_ne (tgt := 26) hx hb dX12_isSafe_19 (by decide) (fun cc1 => ?_) (fun cc1 => ?_)
  · replace hf := m_ifF hf cc1
    refine lv_iconst (v := (0 : Int32)) hx hb dX12_isSafe_26 (by decide) ?_
    exact w_isSafe_27 X hret hf hM (lv_sub hl [0] rfl)
  · replace hf := m_ifT hf cc1
    refine lv_iconst (v := (1 : Int32)) hx hb dX12_isSafe_22 (by decide) ?_
    refine lv_goto (tgt := 27) hx hb dX12_isSafe_23 (by decide) ?_
    exact w_isSafe_27 X hret hf hM (lv_sub hl [0] rfl)
def f0_isSafe (x1 : Int32) (I : Nat → Int32) (A : Nat → Nat → Int32) : Option (Int32 × MS) := f_isSafe_0 x1 I A
theorem c0_isSafe {l : Launch} {D : va_G} {cy ci : ClassId} {h : Nat → Nat} {x1 : Int32} {I : Nat → Int32} {A : Nat → Nat → Int32} {o : Int32 × MS} (hf : f0_isSafe x1 I A = some o) : mMi l yX12_isSafe wsX12_isSafe ({ frames := 4, cells := 0, slots := 0, locals := 98 } : Room) [.ref (h 0), .int x1] D cy ci h I A o :=
  m_entryI (cc := cX12_isSafe) (maxL := 3) (by decide) rfl rfl (Nat.le_of_ble_eq_true rfl) (fun p e s m args below meth c A0 Q H locs ls X hret hM hl => w_isSafe_0 X hret hf hM (lv_sub hl [0, 1] rfl))
