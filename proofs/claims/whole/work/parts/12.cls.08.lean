theorem fl_X11_find_11_0 : Cond.fieldLink RX11 10 "MoveTexts" "text" "LMoveTexts$Row;" ∈ wsX11_find := by decide +kernel
theorem fl_X11_find_11_3 : Cond.fieldLink RX11 29 "MoveTexts" "signReader" "LMoveTexts$SignReader;" ∈ wsX11_find := by decide +kernel
theorem fl_X11_find_11_9 : Cond.fieldLink RX11 68 "MoveTexts" "board" "LMoveTexts$Board;" ∈ wsX11_find := by decide +kernel
theorem hw_X11_find_11 : ∀ w ∈ wsX110, w ∈ wsX11_find := by decide +kernel
def g_X11_find_0 (Pw : Int32 → ZS → Prop) (x0 : Nat) (S : ZS) (C T : Nat) : Prop :=
  m_chkP (x0 ∈ zL S ∧ zK S x0 = 11) (
  m_calP (zP S 3 x0) (fun b1 =>
  m_chkP (x0 ∈ zL S ∧ zK S x0 = 11) (
  m_calP (zP S 9 x0) (fun b2 =>
  m_chkP (x0 ∈ zL S ∧ zK S x0 = 11) (
  m_calP (zP S 0 x0) (fun b3 =>
  m_chkP (x0 ∈ zL S ∧ zK S x0 = 11) (
  m_calP (zP S 0 x0) (fun b4 =>
  m_chkP (b4 ∈ zL S ∧ zK S b4 = 6) (
  m_calP (f_X6_size b4 S) (fun o5 =>
  m_chkP (b1 ∈ zL o5.2 ∧ zK o5.2 b1 = 8) (
  m_gal (C) (T) (fun mc ms Pw => g_X8_matched b1 b2 b3 (0 : Int32) o5.1 o5.2 mc ms Pw) (fun r7 S8 C9 T10 =>
  Pw r7 S8))))))))))))

set_option maxRecDepth 100000 in
set_option maxHeartbeats 4000000 in
theorem w_X11_find_0 {p : Program} {l : Launch} {e : Env} {s : State} {m : MethodId} {args : Array Value} {below : List Frame} {meth : Method} {c : Code} {Q : State → Prop} {D : va_G} {y : Nat → ClassId} {A0 : Nat → Prop} {kc kt : Nat} {Pw : Int32 → ZS → Prop} (X : CallFix p m c cX11_find 1 s args wsX11_find RX11) (hret : zQi p l e ({ frames := 8, cells := kc, slots := kt, locals := 178 } : Room) s m args below meth c Q cX11_find D y A0 .int Pw) {x0 : Nat} {S : ZS} {C T : Nat} {H : Heap} {locs : List Loc} {ls : Array Slot} (hf : g_X11_find_0 Pw x0 S C T) (hCT : C ≤ kc ∧ T ≤ kt) (hM : zH D y A0 s H locs S) (hl : lv_has ls 1 [(0, .ref x0)]) : W p l e ({ frames := 8, cells := kc, slots := kt, locals := 178 } : Room) s m args below meth c H locs (kc - C) (kt - T) Q (F0 m 0 ls []) := by
  obtain ⟨hx, hb, hml, hown, hts⟩ := id X
  unfold g_X11_find_0 at hf
  refine lv_aload_n hx hb dX11_find_0 rfl (lv_at hl 0 rfl) ?_
  obtain ⟨ca, hf⟩ := m_chkPE hf
  refine z_get (k := 11) (j := 3) (C := RX11) (T := TX11) (N := 10) (fl := zf_11) (v := va_rf (zP S 3 x0)) X hw_X11_find_11 hM rfl zc_11 ca (by decide) fl_X11_find_11_3 rfl dX11_find_1 ?_
  clear ca
  obtain ⟨b1, hb9, hf⟩ := m_calPE hf
  refine z_topr hb9 ?_
  clear hb9
  refine lv_aload_n hx hb dX11_find_4 rfl (lv_at hl 0 rfl) ?_
  obtain ⟨ca, hf⟩ := m_chkPE hf
  refine z_get (k := 11) (j := 9) (C := RX11) (T := TX11) (N := 10) (fl := zf_11) (v := va_rf (zP S 9 x0)) X hw_X11_find_11 hM rfl zc_11 ca (by decide) fl_X11_find_11_9 rfl dX11_find_5 ?_
  clear ca
  obtain ⟨b2, hb9, hf⟩ := m_calPE hf
  refine z_topr hb9 ?_
  clear hb9
  refine lv_aload_n hx hb dX11_find_8 rfl (lv_at hl 0 rfl) ?_
  obtain ⟨ca, hf⟩ := m_chkPE hf
  refine z_get (k := 11) (j := 0) (C := RX11) (T := TX11) (N := 10) (fl := zf_11) (v := va_rf (zP S 0 x0)) X hw_X11_find_11 hM rfl zc_11 ca (by decide) fl_X11_find_11_0 rfl dX11_find_9 ?_
  clear ca
  obtain ⟨b3, hb9, hf⟩ := m_calPE hf
  refine z_topr hb9 ?_
  clear hb9
  refine lv_iconst (v := (0 : Int32)) hx hb dX11_find_12 (by decide) ?_
  refine lv_aload_n hx hb dX11_find_13 rfl (lv_at hl 0 rfl) ?_
  obtain ⟨ca, hf⟩ := m_chkPE hf
  refine z_get (k := 11) (j := 0) (C := RX11) (T := TX11) (N := 10) (fl := zf_11) (v := va_rf (zP S 0 x0)) X hw_X11_find_11 hM rfl zc_11 ca (by decide) fl_X11_find_11_0 rfl dX11_find_14 ?_
  clear ca
  obtain ⟨b4, hb9, hf⟩ := m_calPE hf
  refine z_topr hb9 ?_
  clear hb9
  obtain ⟨ca, hf⟩ := m_chkPE hf
  obtain ⟨o5, ho, hf⟩ := m_calPE hf
  refine z_gcallVi (k := 6) (C := RX6) (T := TX6) (N := 2) (fl := zf_6) X hM rfl zc_6 ca (c_X6_size ho) gX11_find_X6_size rfl ⟨rfl, rfl⟩ hd_X6_size ⟨Nat.le_of_ble_eq_true rfl, Nat.le_of_ble_eq_true rfl⟩ rfl hl.1 rfl ⟨Nat.sub_le _ _, Nat.sub_le _ _⟩ (Nat.le_of_ble_eq_true rfl) dX11_find_17 (fun H locs hM => ?_)
  clear ho
  obtain ⟨ca, hf⟩ := m_chkPE hf
  obtain ⟨mc, ms, hcm, ho⟩ := m_galE hf
  refine z_wcallVi (k := 8) (C := RX8) (T := TX8) (N := 12) (fl := zf_8) X hM rfl zc_8 ca (c_X8_matched ho) gX11_find_X8_matched rfl ⟨rfl, rfl⟩ ⟨by show kc - (C) + mc ≤ kc; omega, by show kt - (T) + ms ≤ kt; omega⟩ hd_X8_matched ⟨Nat.le_of_ble_eq_true rfl, Nat.le_of_ble_eq_true rfl⟩ rfl hl.1 rfl (Nat.le_of_ble_eq_true rfl) dX11_find_20 (fun r7 S8 H locs hf hM => ?_)
  refine z_eqCS (c2 := kc - (C - mc)) (t2 := kt - (T - ms)) (by omega) (by omega) ?_
  replace hCT : C - mc ≤ kc ∧ T - ms ≤ kt := by omega
  generalize C - mc = C9 at hf hCT ⊢
  generalize T - ms = T10 at hf hCT ⊢
  clear ho hcm
  exact hret _ _ _ _ H locs _ ls hf hM rfl dX11_find_23
def g_X11_find (x0 : Nat) (S : ZS) (mc ms : Nat) (Pw : Int32 → ZS → Prop) : Prop := g_X11_find_0 Pw x0 S mc ms
theorem c_X11_find {l : Launch} {D : va_G} {y : Nat → ClassId} {x0 : Nat} {S : ZS} {kc kt : Nat} {Pw : Int32 → ZS → Prop} (hf : g_X11_find x0 S kc kt Pw) : zWi l yX11_find wsX11_find ({ frames := 8, cells := kc, slots := kt, locals := 178 } : Room) [.ref x0] D y S kc kt Pw :=
  z_wentI (own := RX11) (cc := cX11_find) (maxL := 1) (by decide) rfl rfl (Nat.le_of_ble_eq_true rfl) ⟨rfl, rfl⟩ (fun p e s m args below meth c A0 Q H locs ls X hret hM hl => w_X11_find_0 X hret hf ⟨Nat.le_refl _, Nat.le_refl _⟩ hM (lv_sub hl [0] rfl))
theorem hd_X11_find : yX11_find.cls = RX11 ∧ yX11_find.cls ≠ "java/lang/invoke/MethodHandle" ∧ yX11_find.cls ≠ "java/lang/invoke/VarHandle" ∧ (parseMethodDescriptor yX11_find.desc).map (fun d => d.parameters.length) = some 0 := by decide +kernel
theorem fl_X11_out_11_1 : Cond.fieldLink RX11 16 "MoveTexts" "out" "LMoveTexts$Row;" ∈ wsX11_out := by decide +kernel
theorem hw_X11_out_11 : ∀ w ∈ wsX110, w ∈ wsX11_out := by decide +kernel
def f_X11_out_0 (x0 : Nat) (x1 : Int32) (S : ZS) : Option (Int32 × ZS) :=
  m_chk (x0 ∈ zL S ∧ zK S x0 = 11) (
  m_cal (zP S 1 x0) (fun b1 =>
  m_chk (b1 ∈ zL S ∧ zK S b1 = 6) (
  m_cal (f_X6_at b1 x1 S) (fun o2 =>
  some (o2.1, o2.2)))))

set_option maxRecDepth 100000 in
set_option maxHeartbeats 4000000 in
theorem w_X11_out_0 {p : Program} {l : Launch} {e : Env} {s : State} {m : MethodId} {args : Array Value} {below : List Frame} {meth : Method} {c : Code} {Q : State → Prop} {D : va_G} {y : Nat → ClassId} {A0 : Nat → Prop} {o : Int32 × ZS} (X : CallFix p m c cX11_out 2 s args wsX11_out RX11) (hret : zRi p l e ({ frames := 1, cells := 0, slots := 0, locals := 21 } : Room) s m args below meth c Q cX11_out D y A0 .int o) {x0 : Nat} {x1 : Int32} {S : ZS} {H : Heap} {locs : List Loc} {ls : Array Slot} (hf : f_X11_out_0 x0 x1 S = some o) (hM : zH D y A0 s H locs S) (hl : lv_has ls 2 [(0, .ref x0), (1, .int x1)]) : W p l e ({ frames := 1, cells := 0, slots := 0, locals := 21 } : Room) s m args below meth c H locs 0 0 Q (F0 m 0 ls []) := by
  obtain ⟨hx, hb, hml, hown, hts⟩ := id X
  unfold f_X11_out_0 at hf
  refine lv_aload_n hx hb dX11_out_0 rfl (lv_at hl 0 rfl) ?_
  obtain ⟨ca, hf⟩ := m_chkE hf
  refine z_get (k := 11) (j := 1) (C := RX11) (T := TX11) (N := 10) (fl := zf_11) (v := va_rf (zP S 1 x0)) X hw_X11_out_11 hM rfl zc_11 ca (by decide) fl_X11_out_11_1 rfl dX11_out_1 ?_
  clear ca
  obtain ⟨b1, hb9, hf⟩ := m_calE hf
  refine z_topr hb9 ?_
  clear hb9
  refine lv_iload_n hx hb dX11_out_4 rfl (lv_at hl 1 rfl) ?_
  obtain ⟨ca, hf⟩ := m_chkE hf
  obtain ⟨o2, ho, hf⟩ := m_calE hf
  refine z_callVi (k := 6) (C := RX6) (T := TX6) (N := 2) (fl := zf_6) X hM rfl zc_6 ca (c_X6_at ho) gX11_out_X6_at rfl ⟨rfl, rfl⟩ hd_X6_at ⟨Nat.le_of_ble_eq_true rfl, Nat.le_of_ble_eq_true rfl⟩ rfl hl.1 rfl (Nat.le_of_ble_eq_true rfl) dX11_out_5 (fun H locs hM => ?_)
  clear ho
  cases hf
  exact hret H locs _ ls hM rfl dX11_out_8
def f_X11_out (x0 : Nat) (x1 : Int32) (S : ZS) : Option (Int32 × ZS) := f_X11_out_0 x0 x1 S
theorem c_X11_out {l : Launch} {D : va_G} {y : Nat → ClassId} {x0 : Nat} {x1 : Int32} {S : ZS} {o : Int32 × ZS} (hf : f_X11_out x0 x1 S = some o) : zMi l yX11_out wsX11_out ({ frames := 1, cells := 0, slots := 0, locals := 21 } : Room) [.ref x0, .int x1] D y S o :=
  z_entryI (own := RX11) (cc := cX11_out) (maxL := 2) (by decide) rfl rfl (Nat.le_of_ble_eq_true rfl) (fun p e s m args below meth c A0 Q H locs ls X hret hM hl => w_X11_out_0 X hret hf hM (lv_sub hl [0, 1] rfl))
theorem hd_X11_out : yX11_out.cls = RX11 ∧ yX11_out.cls ≠ "java/lang/invoke/MethodHandle" ∧ yX11_out.cls ≠ "java/lang/invoke/VarHandle" ∧ (parseMethodDescriptor yX11_out.desc).map (fun d => d.parameters.length) = some 1 := by decide +kernel
theorem fl_X11_nodes_11_7 : Cond.fieldLink RX11 57 "MoveTexts" "game" "LMoveTexts$Game;" ∈ wsX11_nodes := by decide +kernel
theorem fl_X11_nodes_1_3 : Cond.fieldLink RX11 158 "MoveTexts$Game" "greatest" "I" ∈ wsX11_nodes := by decide +kernel
theorem hw_X11_nodes_1 : ∀ w ∈ wsX10, w ∈ wsX11_nodes := by decide +kernel
theorem hw_X11_nodes_11 : ∀ w ∈ wsX110, w ∈ wsX11_nodes := by decide +kernel
def f_X11_nodes_0 (x0 : Nat) (S : ZS) : Option (Int32 × ZS) :=
  m_chk (x0 ∈ zL S ∧ zK S x0 = 11) (
  m_cal (zP S 7 x0) (fun b1 =>
  m_chk (b1 ∈ zL S ∧ zK S b1 = 1) (
  some ((zI S 3 b1), S))))

set_option maxRecDepth 100000 in
set_option maxHeartbeats 4000000 in
theorem w_X11_nodes_0 {p : Program} {l : Launch} {e : Env} {s : State} {m : MethodId} {args : Array Value} {below : List Frame} {meth : Method} {c : Code} {Q : State → Prop} {D : va_G} {y : Nat → ClassId} {A0 : Nat → Prop} {o : Int32 × ZS} (X : CallFix p m c cX11_nodes 1 s args wsX11_nodes RX11) (hret : zRi p l e ({ frames := 0, cells := 0, slots := 0, locals := 0 } : Room) s m args below meth c Q cX11_nodes D y A0 .int o) {x0 : Nat} {S : ZS} {H : Heap} {locs : List Loc} {ls : Array Slot} (hf : f_X11_nodes_0 x0 S = some o) (hM : zH D y A0 s H locs S) (hl : lv_has ls 1 [(0, .ref x0)]) : W p l e ({ frames := 0, cells := 0, slots := 0, locals := 0 } : Room) s m args below meth c H locs 0 0 Q (F0 m 0 ls []) := by
  obtain ⟨hx, hb, hml, hown, hts⟩ := id X
  unfold f_X11_nodes_0 at hf
  refine lv_aload_n hx hb dX11_nodes_0 rfl (lv_at hl 0 rfl) ?_
  obtain ⟨ca, hf⟩ := m_chkE hf
  refine z_get (k := 11) (j := 7) (C := RX11) (T := TX11) (N := 10) (fl := zf_11) (v := va_rf (zP S 7 x0)) X hw_X11_nodes_11 hM rfl zc_11 ca (by decide) fl_X11_nodes_11_7 rfl dX11_nodes_1 ?_
  clear ca
  obtain ⟨b1, hb9, hf⟩ := m_calE hf
  refine z_topr hb9 ?_
  clear hb9
  obtain ⟨ca, hf⟩ := m_chkE hf
  refine z_get (k := 1) (j := 3) (C := RX1) (T := TX1) (N := 8) (fl := zf_1) (v := .int (zI S 3 b1)) X hw_X11_nodes_1 hM rfl zc_1 ca (by decide) fl_X11_nodes_1_3 rfl dX11_nodes_4 ?_
  clear ca
  cases hf
  exact hret H locs _ ls hM rfl dX11_nodes_7
def f_X11_nodes (x0 : Nat) (S : ZS) : Option (Int32 × ZS) := f_X11_nodes_0 x0 S
theorem c_X11_nodes {l : Launch} {D : va_G} {y : Nat → ClassId} {x0 : Nat} {S : ZS} {o : Int32 × ZS} (hf : f_X11_nodes x0 S = some o) : zMi l yX11_nodes wsX11_nodes ({ frames := 0, cells := 0, slots := 0, locals := 0 } : Room) [.ref x0] D y S o :=
  z_entryI (own := RX11) (cc := cX11_nodes) (maxL := 1) (by decide) rfl rfl (Nat.le_of_ble_eq_true rfl) (fun p e s m args below meth c A0 Q H locs ls X hret hM hl => w_X11_nodes_0 X hret hf hM (lv_sub hl [0] rfl))
theorem hd_X11_nodes : yX11_nodes.cls = RX11 ∧ yX11_nodes.cls ≠ "java/lang/invoke/MethodHandle" ∧ yX11_nodes.cls ≠ "java/lang/invoke/VarHandle" ∧ (parseMethodDescriptor yX11_nodes.desc).map (fun d => d.parameters.length) = some 0 := by decide +kernel
theorem fl_X11_here_11_8 : Cond.fieldLink RX11 61 "MoveTexts" "here" "I" ∈ wsX11_here := by decide +kernel
theorem hw_X11_here_11 : ∀ w ∈ wsX110, w ∈ wsX11_here := by decide +kernel
def f_X11_here_0 (x0 : Nat) (S : ZS) : Option (Int32 × ZS) :=
  m_chk (x0 ∈ zL S ∧ zK S x0 = 11) (
  some ((zI S 8 x0), S))

set_option maxRecDepth 100000 in
set_option maxHeartbeats 4000000 in
theorem w_X11_here_0 {p : Program} {l : Launch} {e : Env} {s : State} {m : MethodId} {args : Array Value} {below : List Frame} {meth : Method} {c : Code} {Q : State → Prop} {D : va_G} {y : Nat → ClassId} {A0 : Nat → Prop} {o : Int32 × ZS} (X : CallFix p m c cX11_here 1 s args wsX11_here RX11) (hret : zRi p l e ({ frames := 0, cells := 0, slots := 0, locals := 0 } : Room) s m args below meth c Q cX11_here D y A0 .int o) {x0 : Nat} {S : ZS} {H : Heap} {locs : List Loc} {ls : Array Slot} (hf : f_X11_here_0 x0 S = some o) (hM : zH D y A0 s H locs S) (hl : lv_has ls 1 [(0, .ref x0)]) : W p l e ({ frames := 0, cells := 0, slots := 0, locals := 0 } : Room) s m args below meth c H locs 0 0 Q (F0 m 0 ls []) := by
  obtain ⟨hx, hb, hml, hown, hts⟩ := id X
  unfold f_X11_here_0 at hf
  refine lv_aload_n hx hb dX11_here_0 rfl (lv_at hl 0 rfl) ?_
  obtain ⟨ca, hf⟩ := m_chkE hf
  refine z_get (k := 11) (j := 8) (C := RX11) (T := TX11) (N := 10) (fl := zf_11) (v := .int (zI S 8 x0)) X hw_X11_here_11 hM rfl zc_11 ca (by decide) fl_X11_here_11_8 rfl dX11_here_1 ?_
  clear ca
  cases hf
  exact hret H locs _ ls hM rfl dX11_here_4
def f_X11_here (x0 : Nat) (S : ZS) : Option (Int32 × ZS) := f_X11_here_0 x0 S
theorem c_X11_here {l : Launch} {D : va_G} {y : Nat → ClassId} {x0 : Nat} {S : ZS} {o : Int32 × ZS} (hf : f_X11_here x0 S = some o) : zMi l yX11_here wsX11_here ({ frames := 0, cells := 0, slots := 0, locals := 0 } : Room) [.ref x0] D y S o :=
  z_entryI (own := RX11) (cc := cX11_here) (maxL := 1) (by decide) rfl rfl (Nat.le_of_ble_eq_true rfl) (fun p e s m args below meth c A0 Q H locs ls X hret hM hl => w_X11_here_0 X hret hf hM (lv_sub hl [0] rfl))
theorem hd_X11_here : yX11_here.cls = RX11 ∧ yX11_here.cls ≠ "java/lang/invoke/MethodHandle" ∧ yX11_here.cls ≠ "java/lang/invoke/VarHandle" ∧ (parseMethodDescriptor yX11_here.desc).map (fun d => d.parameters.length) = some 0 := by decide +kernel
theorem fl_X11_move_11_2 : Cond.fieldLink RX11 22 "MoveTexts" "rules" "LMoveTexts$Rules;" ∈ wsX11_move := by decide +kernel
theorem fl_X11_move_11_9 : Cond.fieldLink RX11 68 "MoveTexts" "board" "LMoveTexts$Board;" ∈ wsX11_move := by decide +kernel
theorem hw_X11_move_11 : ∀ w ∈ wsX110, w ∈ wsX11_move := by decide +kernel
def f_X11_move_0 (x0 : Nat) (x1 : Int32) (S : ZS) : Option (Int32 × ZS) :=
  m_chk (x0 ∈ zL S ∧ zK S x0 = 11) (
  m_cal (zP S 2 x0) (fun b1 =>
  m_chk (x0 ∈ zL S ∧ zK S x0 = 11) (
  m_cal (zP S 9 x0) (fun b2 =>
  m_chk (b1 ∈ zL S ∧ zK S b1 = 7) (
  m_cal (f_X7_legalMove b1 b2 x1 S) (fun o3 =>
  some (o3.1, o3.2)))))))

set_option maxRecDepth 100000 in
set_option maxHeartbeats 4000000 in
theorem w_X11_move_0 {p : Program} {l : Launch} {e : Env} {s : State} {m : MethodId} {args : Array Value} {below : List Frame} {meth : Method} {c : Code} {Q : State → Prop} {D : va_G} {y : Nat → ClassId} {A0 : Nat → Prop} {o : Int32 × ZS} (X : CallFix p m c cX11_move 2 s args wsX11_move RX11) (hret : zRi p l e ({ frames := 4, cells := 0, slots := 0, locals := 133 } : Room) s m args below meth c Q cX11_move D y A0 .int o) {x0 : Nat} {x1 : Int32} {S : ZS} {H : Heap} {locs : List Loc} {ls : Array Slot} (hf : f_X11_move_0 x0 x1 S = some o) (hM : zH D y A0 s H locs S) (hl : lv_has ls 2 [(0, .ref x0), (1, .int x1)]) : W p l e ({ frames := 4, cells := 0, slots := 0, locals := 133 } : Room) s m args below meth c H locs 0 0 Q (F0 m 0 ls []) := by
  obtain ⟨hx, hb, hml, hown, hts⟩ := id X
  unfold f_X11_move_0 at hf
  refine lv_aload_n hx hb dX11_move_0 rfl (lv_at hl 0 rfl) ?_
  obtain ⟨ca, hf⟩ := m_chkE hf
  refine z_get (k := 11) (j := 2) (C := RX11) (T := TX11) (N := 10) (fl := zf_11) (v := va_rf (zP S 2 x0)) X hw_X11_move_11 hM rfl zc_11 ca (by decide) fl_X11_move_11_2 rfl dX11_move_1 ?_
  clear ca
  obtain ⟨b1, hb9, hf⟩ := m_calE hf
  refine z_topr hb9 ?_
  clear hb9
  refine lv_aload_n hx hb dX11_move_4 rfl (lv_at hl 0 rfl) ?_
  obtain ⟨ca, hf⟩ := m_chkE hf
  refine z_get (k := 11) (j := 9) (C := RX11) (T := TX11) (N := 10) (fl := zf_11) (v := va_rf (zP S 9 x0)) X hw_X11_move_11 hM rfl zc_11 ca (by decide) fl_X11_move_11_9 rfl dX11_move_5 ?_
  clear ca
  obtain ⟨b2, hb9, hf⟩ := m_calE hf
  refine z_topr hb9 ?_
  clear hb9
  refine lv_iload_n hx hb dX11_move_8 rfl (lv_at hl 1 rfl) ?_
  obtain ⟨ca, hf⟩ := m_chkE hf
  obtain ⟨o3, ho, hf⟩ := m_calE hf
  refine z_callVi (k := 7) (C := RX7) (T := TX7) (N := 2) (fl := zf_7) X hM rfl zc_7 ca (c_X7_legalMove ho) gX11_move_X7_legalMove rfl ⟨rfl, rfl⟩ hd_X7_legalMove ⟨Nat.le_of_ble_eq_true rfl, Nat.le_of_ble_eq_true rfl⟩ rfl hl.1 rfl (Nat.le_of_ble_eq_true rfl) dX11_move_9 (fun H locs hM => ?_)
  clear ho
  cases hf
  exact hret H locs _ ls hM rfl dX11_move_12
def f_X11_move (x0 : Nat) (x1 : Int32) (S : ZS) : Option (Int32 × ZS) := f_X11_move_0 x0 x1 S
theorem c_X11_move {l : Launch} {D : va_G} {y : Nat → ClassId} {x0 : Nat} {x1 : Int32} {S : ZS} {o : Int32 × ZS} (hf : f_X11_move x0 x1 S = some o) : zMi l yX11_move wsX11_move ({ frames := 4, cells := 0, slots := 0, locals := 133 } : Room) [.ref x0, .int x1] D y S o :=
  z_entryI (own := RX11) (cc := cX11_move) (maxL := 2) (by decide) rfl rfl (Nat.le_of_ble_eq_true rfl) (fun p e s m args below meth c A0 Q H locs ls X hret hM hl => w_X11_move_0 X hret hf hM (lv_sub hl [0, 1] rfl))
theorem hd_X11_move : yX11_move.cls = RX11 ∧ yX11_move.cls ≠ "java/lang/invoke/MethodHandle" ∧ yX11_move.cls ≠ "java/lang/invoke/VarHandle" ∧ (parseMethodDescriptor yX11_move.desc).map (fun d => d.parameters.length) = some 1 := by decide +kernel
theorem fl_X11_result_11_7 : Cond.fieldLink RX11 57 "MoveTexts" "game" "LMoveTexts$Game;" ∈ wsX11_result := by decide +kernel
theorem fl_X11_result_1_6 : Cond.fieldLink RX11 257 "MoveTexts$Game" "result" "I" ∈ wsX11_result := by decide +kernel
theorem hw_X11_result_1 : ∀ w ∈ wsX10, w ∈ wsX11_result := by decide +kernel
theorem hw_X11_result_11 : ∀ w ∈ wsX110, w ∈ wsX11_result := by decide +kernel
def f_X11_result_0 (x0 : Nat) (S : ZS) : Option (Int32 × ZS) :=
  m_chk (x0 ∈ zL S ∧ zK S x0 = 11) (
  m_cal (zP S 7 x0) (fun b1 =>
  m_chk (b1 ∈ zL S ∧ zK S b1 = 1) (
  some ((zI S 6 b1), S))))

set_option maxRecDepth 100000 in
set_option maxHeartbeats 4000000 in
theorem w_X11_result_0 {p : Program} {l : Launch} {e : Env} {s : State} {m : MethodId} {args : Array Value} {below : List Frame} {meth : Method} {c : Code} {Q : State → Prop} {D : va_G} {y : Nat → ClassId} {A0 : Nat → Prop} {o : Int32 × ZS} (X : CallFix p m c cX11_result 1 s args wsX11_result RX11) (hret : zRi p l e ({ frames := 0, cells := 0, slots := 0, locals := 0 } : Room) s m args below meth c Q cX11_result D y A0 .int o) {x0 : Nat} {S : ZS} {H : Heap} {locs : List Loc} {ls : Array Slot} (hf : f_X11_result_0 x0 S = some o) (hM : zH D y A0 s H locs S) (hl : lv_has ls 1 [(0, .ref x0)]) : W p l e ({ frames := 0, cells := 0, slots := 0, locals := 0 } : Room) s m args below meth c H locs 0 0 Q (F0 m 0 ls []) := by
  obtain ⟨hx, hb, hml, hown, hts⟩ := id X
  unfold f_X11_result_0 at hf
  refine lv_aload_n hx hb dX11_result_0 rfl (lv_at hl 0 rfl) ?_
  obtain ⟨ca, hf⟩ := m_chkE hf
  refine z_get (k := 11) (j := 7) (C := RX11) (T := TX11) (N := 10) (fl := zf_11) (v := va_rf (zP S 7 x0)) X hw_X11_result_11 hM rfl zc_11 ca (by decide) fl_X11_result_11_7 rfl dX11_result_1 ?_
  clear ca
  obtain ⟨b1, hb9, hf⟩ := m_calE hf
  refine z_topr hb9 ?_
  clear hb9
  obtain ⟨ca, hf⟩ := m_chkE hf
  refine z_get (k := 1) (j := 6) (C := RX1) (T := TX1) (N := 8) (fl := zf_1) (v := .int (zI S 6 b1)) X hw_X11_result_1 hM rfl zc_1 ca (by decide) fl_X11_result_1_6 rfl dX11_result_4 ?_
  clear ca
  cases hf
  exact hret H locs _ ls hM rfl dX11_result_7
def f_X11_result (x0 : Nat) (S : ZS) : Option (Int32 × ZS) := f_X11_result_0 x0 S
theorem c_X11_result {l : Launch} {D : va_G} {y : Nat → ClassId} {x0 : Nat} {S : ZS} {o : Int32 × ZS} (hf : f_X11_result x0 S = some o) : zMi l yX11_result wsX11_result ({ frames := 0, cells := 0, slots := 0, locals := 0 } : Room) [.ref x0] D y S o :=
  z_entryI (own := RX11) (cc := cX11_result) (maxL := 1) (by decide) rfl rfl (Nat.le_of_ble_eq_true rfl) (fun p e s m args below meth c A0 Q H locs ls X hret hM hl => w_X11_result_0 X hret hf hM (lv_sub hl [0] rfl))
theorem hd_X11_result : yX11_result.cls = RX11 ∧ yX11_result.cls ≠ "java/lang/invoke/MethodHandle" ∧ yX11_result.cls ≠ "java/lang/invoke/VarHandle" ∧ (parseMethodDescriptor yX11_result.desc).map (fun d => d.parameters.length) = some 0 := by decide +kernel
theorem fl_X11_tags_11_7 : Cond.fieldLink RX11 57 "MoveTexts" "game" "LMoveTexts$Game;" ∈ wsX11_tags := by decide +kernel
theorem fl_X11_tags_1_5 : Cond.fieldLink RX11 260 "MoveTexts$Game" "tagCount" "I" ∈ wsX11_tags := by decide +kernel
theorem hw_X11_tags_1 : ∀ w ∈ wsX10, w ∈ wsX11_tags := by decide +kernel
theorem hw_X11_tags_11 : ∀ w ∈ wsX110, w ∈ wsX11_tags := by decide +kernel
def f_X11_tags_0 (x0 : Nat) (S : ZS) : Option (Int32 × ZS) :=
  m_chk (x0 ∈ zL S ∧ zK S x0 = 11) (
  m_cal (zP S 7 x0) (fun b1 =>
  m_chk (b1 ∈ zL S ∧ zK S b1 = 1) (
  some ((zI S 5 b1), S))))

set_option maxRecDepth 100000 in
set_option maxHeartbeats 4000000 in
theorem w_X11_tags_0 {p : Program} {l : Launch} {e : Env} {s : State} {m : MethodId} {args : Array Value} {below : List Frame} {meth : Method} {c : Code} {Q : State → Prop} {D : va_G} {y : Nat → ClassId} {A0 : Nat → Prop} {o : Int32 × ZS} (X : CallFix p m c cX11_tags 1 s args wsX11_tags RX11) (hret : zRi p l e ({ frames := 0, cells := 0, slots := 0, locals := 0 } : Room) s m args below meth c Q cX11_tags D y A0 .int o) {x0 : Nat} {S : ZS} {H : Heap} {locs : List Loc} {ls : Array Slot} (hf : f_X11_tags_0 x0 S = some o) (hM : zH D y A0 s H locs S) (hl : lv_has ls 1 [(0, .ref x0)]) : W p l e ({ frames := 0, cells := 0, slots := 0, locals := 0 } : Room) s m args below meth c H locs 0 0 Q (F0 m 0 ls []) := by
  obtain ⟨hx, hb, hml, hown, hts⟩ := id X
  unfold f_X11_tags_0 at hf
  refine lv_aload_n hx hb dX11_tags_0 rfl (lv_at hl 0 rfl) ?_
  obtain ⟨ca, hf⟩ := m_chkE hf
  refine z_get (k := 11) (j := 7) (C := RX11) (T := TX11) (N := 10) (fl := zf_11) (v := va_rf (zP S 7 x0)) X hw_X11_tags_11 hM rfl zc_11 ca (by decide) fl_X11_tags_11_7 rfl dX11_tags_1 ?_
  clear ca
  obtain ⟨b1, hb9, hf⟩ := m_calE hf
  refine z_topr hb9 ?_
  clear hb9
  obtain ⟨ca, hf⟩ := m_chkE hf
  refine z_get (k := 1) (j := 5) (C := RX1) (T := TX1) (N := 8) (fl := zf_1) (v := .int (zI S 5 b1)) X hw_X11_tags_1 hM rfl zc_1 ca (by decide) fl_X11_tags_1_5 rfl dX11_tags_4 ?_
  clear ca
  cases hf
  exact hret H locs _ ls hM rfl dX11_tags_7
def f_X11_tags (x0 : Nat) (S : ZS) : Option (Int32 × ZS) := f_X11_tags_0 x0 S
theorem c_X11_tags {l : Launch} {D : va_G} {y : Nat → ClassId} {x0 : Nat} {S : ZS} {o : Int32 × ZS} (hf : f_X11_tags x0 S = some o) : zMi l yX11_tags wsX11_tags ({ frames := 0, cells := 0, slots := 0, locals := 0 } : Room) [.ref x0] D y S o :=
  z_entryI (own := RX11) (cc := cX11_tags) (maxL := 1) (by decide) rfl rfl (Nat.le_of_ble_eq_true rfl) (fun p e s m args below meth c A0 Q H locs ls X hret hM hl => w_X11_tags_0 X hret hf hM (lv_sub hl [0] rfl))
theorem hd_X11_tags : yX11_tags.cls = RX11 ∧ yX11_tags.cls ≠ "java/lang/invoke/MethodHandle" ∧ yX11_tags.cls ≠ "java/lang/invoke/VarHandle" ∧ (parseMethodDescriptor yX11_tags.desc).map (fun d => d.parameters.length) = some 0 := by decide +kernel
