theorem fl_X9_putApart_0_0 : Cond.fieldLink RX9 63 "MoveTexts$Board" "men" "[I" ∈ wsX9_putApart := by decide +kernel
theorem fl_X9_putApart_9_0 : Cond.fieldLink RX9 12 "MoveTexts$SignWriter" "rules" "LMoveTexts$Rules;" ∈ wsX9_putApart := by decide +kernel
theorem hw_X9_putApart_0 : ∀ w ∈ wsX00, w ∈ wsX9_putApart := by decide +kernel
theorem hw_X9_putApart_9 : ∀ w ∈ wsX90, w ∈ wsX9_putApart := by decide +kernel
theorem nn_X9_putApart_53 : ((RX9, 53, yX11_fileLetter, "MoveTexts") ∈ zNW ∧ Cond.initialized yX11_fileLetter.cls ∈ wsX9_putApart) ∧ Cond.static yX11_fileLetter ∈ wsX9_putApart := by decide +kernel
theorem nn_X9_putApart_56 : ((RX9, 56, yX11_rankDigit, "MoveTexts") ∈ zNW ∧ Cond.initialized yX11_rankDigit.cls ∈ wsX9_putApart) ∧ Cond.static yX11_rankDigit ∈ wsX9_putApart := by decide +kernel
def g_X9_putApart_162 (Pw : Int32 → ZS → Prop) (S : ZS) (C T : Nat) : Prop :=
  Pw 0 S

set_option maxRecDepth 100000 in
set_option maxHeartbeats 4000000 in
theorem w_X9_putApart_162 {p : Program} {l : Launch} {e : Env} {s : State} {m : MethodId} {args : Array Value} {below : List Frame} {meth : Method} {c : Code} {Q : State → Prop} {D : va_G} {y : Nat → ClassId} {A0 : Nat → Prop} {kc kt : Nat} {Pw : Int32 → ZS → Prop} (X : CallFix p m c cX9_putApart 9 s args wsX9_putApart RX9) (hret : zQv p l e ({ frames := 3, cells := kc, slots := kt, locals := 106 } : Room) s m args below meth c Q cX9_putApart D y A0 Pw) {S : ZS} {C T : Nat} {H : Heap} {locs : List Loc} {ls : Array Slot} (hf : g_X9_putApart_162 Pw  S C T) (hCT : C ≤ kc ∧ T ≤ kt) (hM : zH D y A0 s H locs S) (hl : lv_has ls 9 []) : W p l e ({ frames := 3, cells := kc, slots := kt, locals := 106 } : Room) s m args below meth c H locs (kc - C) (kt - T) Q (F0 m 162 ls []) := by
  obtain ⟨hx, hb, hml, hown, hts⟩ := id X
  unfold g_X9_putApart_162 at hf
  exact hret _ _ _ H locs _ ls hf hM dX9_putApart_162
def g_X9_putApart_148 (Pw : Int32 → ZS → Prop) (x2 : Int32) (x4 : Nat) (x6 : Int32) (S : ZS) (C T : Nat) : Prop :=
  m_ifP (x6 = 0) (
  g_X9_putApart_162 Pw  S (C) (T)
  ) (
  m_calP (f_X11_rankDigit x2 S) (fun o1 =>
  m_chkP (x4 ∈ zL o1.2 ∧ zK o1.2 x4 = 6) (
  m_gal (C) (T) (fun mc ms Pw => g_X6_put x4 o1.1 o1.2 mc ms Pw) (fun r3 S4 C5 T6 =>
  g_X9_putApart_162 Pw  S4 (C5) (T6))))
  )

set_option maxRecDepth 100000 in
set_option maxHeartbeats 4000000 in
theorem w_X9_putApart_148 {p : Program} {l : Launch} {e : Env} {s : State} {m : MethodId} {args : Array Value} {below : List Frame} {meth : Method} {c : Code} {Q : State → Prop} {D : va_G} {y : Nat → ClassId} {A0 : Nat → Prop} {kc kt : Nat} {Pw : Int32 → ZS → Prop} (X : CallFix p m c cX9_putApart 9 s args wsX9_putApart RX9) (hret : zQv p l e ({ frames := 3, cells := kc, slots := kt, locals := 106 } : Room) s m args below meth c Q cX9_putApart D y A0 Pw) {x2 : Int32} {x4 : Nat} {x6 : Int32} {S : ZS} {C T : Nat} {H : Heap} {locs : List Loc} {ls : Array Slot} (hf : g_X9_putApart_148 Pw x2 x4 x6 S C T) (hCT : C ≤ kc ∧ T ≤ kt) (hM : zH D y A0 s H locs S) (hl : lv_has ls 9 [(2, .int x2), (4, .ref x4), (6, .int x6)]) : W p l e ({ frames := 3, cells := kc, slots := kt, locals := 106 } : Room) s m args below meth c H locs (kc - C) (kt - T) Q (F0 m 148 ls []) := by
  obtain ⟨hx, hb, hml, hown, hts⟩ := id X
  unfold g_X9_putApart_148 at hf
  refine lv_iload hx hb dX9_putApart_148 (lv_at hl 2 rfl) ?_
  refine lv_if_eq (tgt := 162) hx hb dX9_putApart_150 (by decide) (fun cc1 => ?_) (fun cc1 => ?_)
  · replace hf := m_ifPT hf cc1
    exact w_X9_putApart_162 X hret hf hCT hM (lv_sub hl [] rfl)
  · replace hf := m_ifPF hf cc1
    refine lv_aload hx hb dX9_putApart_153 (lv_at hl 1 rfl) ?_
    refine lv_iload_n hx hb dX9_putApart_155 rfl (lv_at hl 0 rfl) ?_
    obtain ⟨o1, ho, hf⟩ := m_calPE hf
    refine z_gcallSNi X hM (c_X11_rankDigit ho) gX9_putApart_X11_rankDigit_n56 nn_X9_putApart_56.1.1 nn_X9_putApart_56.1.2 nn_X9_putApart_56.2 rfl ⟨rfl, rfl⟩ hd_X11_rankDigit ⟨Nat.le_of_ble_eq_true rfl, Nat.le_of_ble_eq_true rfl⟩ rfl hl.1 rfl ⟨Nat.sub_le _ _, Nat.sub_le _ _⟩ (Nat.le_of_ble_eq_true rfl) dX9_putApart_156 (fun H locs hM => ?_)
    clear ho
    obtain ⟨ca, hf⟩ := m_chkPE hf
    obtain ⟨mc, ms, hcm, ho⟩ := m_galE hf
    refine z_wcallVv (k := 6) (C := RX6) (T := TX6) (N := 2) (fl := zf_6) X hM rfl zc_6 ca (c_X6_put ho) gX9_putApart_X6_put rfl ⟨rfl, rfl⟩ ⟨by show kc - (C) + mc ≤ kc; omega, by show kt - (T) + ms ≤ kt; omega⟩ hd_X6_put ⟨Nat.le_of_ble_eq_true rfl, Nat.le_of_ble_eq_true rfl⟩ rfl hl.1 rfl (Nat.le_of_ble_eq_true rfl) dX9_putApart_159 (fun S4 H locs hf hM => ?_)
    refine z_eqCS (c2 := kc - (C - mc)) (t2 := kt - (T - ms)) (by omega) (by omega) ?_
    replace hCT : C - mc ≤ kc ∧ T - ms ≤ kt := by omega
    generalize C - mc = C5 at hf hCT ⊢
    generalize T - ms = T6 at hf hCT ⊢
    clear ho hcm
    exact w_X9_putApart_162 X hret hf hCT hM (lv_sub hl [] rfl)
def g_X9_putApart_139 (Pw : Int32 → ZS → Prop) (x2 : Int32) (x4 : Nat) (x6 : Int32) (S : ZS) (C T : Nat) : Prop :=
  m_calP (f_X11_fileLetter x2 S) (fun o1 =>
  m_chkP (x4 ∈ zL o1.2 ∧ zK o1.2 x4 = 6) (
  m_gal (C) (T) (fun mc ms Pw => g_X6_put x4 o1.1 o1.2 mc ms Pw) (fun r3 S4 C5 T6 =>
  g_X9_putApart_148 Pw x2 x4 x6 S4 (C5) (T6))))

set_option maxRecDepth 100000 in
set_option maxHeartbeats 4000000 in
theorem w_X9_putApart_139 {p : Program} {l : Launch} {e : Env} {s : State} {m : MethodId} {args : Array Value} {below : List Frame} {meth : Method} {c : Code} {Q : State → Prop} {D : va_G} {y : Nat → ClassId} {A0 : Nat → Prop} {kc kt : Nat} {Pw : Int32 → ZS → Prop} (X : CallFix p m c cX9_putApart 9 s args wsX9_putApart RX9) (hret : zQv p l e ({ frames := 3, cells := kc, slots := kt, locals := 106 } : Room) s m args below meth c Q cX9_putApart D y A0 Pw) {x2 : Int32} {x4 : Nat} {x6 : Int32} {S : ZS} {C T : Nat} {H : Heap} {locs : List Loc} {ls : Array Slot} (hf : g_X9_putApart_139 Pw x2 x4 x6 S C T) (hCT : C ≤ kc ∧ T ≤ kt) (hM : zH D y A0 s H locs S) (hl : lv_has ls 9 [(2, .int x2), (4, .ref x4), (6, .int x6)]) : W p l e ({ frames := 3, cells := kc, slots := kt, locals := 106 } : Room) s m args below meth c H locs (kc - C) (kt - T) Q (F0 m 139 ls []) := by
  obtain ⟨hx, hb, hml, hown, hts⟩ := id X
  unfold g_X9_putApart_139 at hf
  refine lv_aload hx hb dX9_putApart_139 (lv_at hl 1 rfl) ?_
  refine lv_iload_n hx hb dX9_putApart_141 rfl (lv_at hl 0 rfl) ?_
  obtain ⟨o1, ho, hf⟩ := m_calPE hf
  refine z_gcallSNi X hM (c_X11_fileLetter ho) gX9_putApart_X11_fileLetter_n53 nn_X9_putApart_53.1.1 nn_X9_putApart_53.1.2 nn_X9_putApart_53.2 rfl ⟨rfl, rfl⟩ hd_X11_fileLetter ⟨Nat.le_of_ble_eq_true rfl, Nat.le_of_ble_eq_true rfl⟩ rfl hl.1 rfl ⟨Nat.sub_le _ _, Nat.sub_le _ _⟩ (Nat.le_of_ble_eq_true rfl) dX9_putApart_142 (fun H locs hM => ?_)
  clear ho
  obtain ⟨ca, hf⟩ := m_chkPE hf
  obtain ⟨mc, ms, hcm, ho⟩ := m_galE hf
  refine z_wcallVv (k := 6) (C := RX6) (T := TX6) (N := 2) (fl := zf_6) X hM rfl zc_6 ca (c_X6_put ho) gX9_putApart_X6_put rfl ⟨rfl, rfl⟩ ⟨by show kc - (C) + mc ≤ kc; omega, by show kt - (T) + ms ≤ kt; omega⟩ hd_X6_put ⟨Nat.le_of_ble_eq_true rfl, Nat.le_of_ble_eq_true rfl⟩ rfl hl.1 rfl (Nat.le_of_ble_eq_true rfl) dX9_putApart_145 (fun S4 H locs hf hM => ?_)
  refine z_eqCS (c2 := kc - (C - mc)) (t2 := kt - (T - ms)) (by omega) (by omega) ?_
  replace hCT : C - mc ≤ kc ∧ T - ms ≤ kt := by omega
  generalize C - mc = C5 at hf hCT ⊢
  generalize T - ms = T6 at hf hCT ⊢
  clear ho hcm
  exact w_X9_putApart_148 (x2 := x2) (x4 := x4) (x6 := x6) X hret hf hCT hM (lv_sub hl [0, 1, 2] rfl)
def g_X9_putApart_118 (Pw : Int32 → ZS → Prop) (self12 : Nat → Nat → Int32 → Int32 → Nat → Int32 → Int32 → Int32 → Int32 → ZS → Nat → Nat → Prop) (x0 : Nat) (x1 : Nat) (x2 : Int32) (x3 : Int32) (x4 : Nat) (x5 : Int32) (x6 : Int32) (x7 : Int32) (x8 : Int32) (S : ZS) (C T : Nat) : Prop :=
  m_bndP (x8 + (1 : Int32)) (fun v1 =>
  self12 x0 x1 x2 x3 x4 x5 x6 x7 v1 S (C) (T))

set_option maxRecDepth 100000 in
set_option maxHeartbeats 4000000 in
theorem w_X9_putApart_118 {p : Program} {l : Launch} {e : Env} {s : State} {m : MethodId} {args : Array Value} {below : List Frame} {meth : Method} {c : Code} {Q : State → Prop} {D : va_G} {y : Nat → ClassId} {A0 : Nat → Prop} {kc kt : Nat} {Pw : Int32 → ZS → Prop} (X : CallFix p m c cX9_putApart 9 s args wsX9_putApart RX9) (hret : zQv p l e ({ frames := 3, cells := kc, slots := kt, locals := 106 } : Room) s m args below meth c Q cX9_putApart D y A0 Pw) {self12 : Nat → Nat → Int32 → Int32 → Nat → Int32 → Int32 → Int32 → Int32 → ZS → Nat → Nat → Prop} (hself12 : ∀ (x0 : Nat) (x1 : Nat) (x2 : Int32) (x3 : Int32) (x4 : Nat) (x5 : Int32) (x6 : Int32) (x7 : Int32) (x8 : Int32) (S : ZS) (C T : Nat) (H : Heap) (locs : List Loc) (ls : Array Slot), self12 x0 x1 x2 x3 x4 x5 x6 x7 x8 S C T → C ≤ kc ∧ T ≤ kt → zH D y A0 s H locs S → lv_has ls 9 [(0, .ref x0), (1, .ref x1), (2, .int x2), (3, .int x3), (4, .ref x4), (5, .int x5), (6, .int x6), (7, .int x7), (8, .int x8)] → W p l e ({ frames := 3, cells := kc, slots := kt, locals := 106 } : Room) s m args below meth c H locs (kc - C) (kt - T) Q (F0 m 12 ls [])) {x0 : Nat} {x1 : Nat} {x2 : Int32} {x3 : Int32} {x4 : Nat} {x5 : Int32} {x6 : Int32} {x7 : Int32} {x8 : Int32} {S : ZS} {C T : Nat} {H : Heap} {locs : List Loc} {ls : Array Slot} (hf : g_X9_putApart_118 Pw self12 x0 x1 x2 x3 x4 x5 x6 x7 x8 S C T) (hCT : C ≤ kc ∧ T ≤ kt) (hM : zH D y A0 s H locs S) (hl : lv_has ls 9 [(0, .ref x0), (1, .ref x1), (2, .int x2), (3, .int x3), (4, .ref x4), (5, .int x5), (6, .int x6), (7, .int x7), (8, .int x8)]) : W p l e ({ frames := 3, cells := kc, slots := kt, locals := 106 } : Room) s m args below meth c H locs (kc - C) (kt - T) Q (F0 m 118 ls []) := by
  obtain ⟨hx, hb, hml, hown, hts⟩ := id X
  unfold g_X9_putApart_118 at hf
  obtain ⟨v1, ev, hf⟩ := m_bndPE hf
  refine lv_iinc (v := v1) (lv' := [(8, .int v1), (0, .ref x0), (1, .ref x1), (2, .int x2), (3, .int x3), (4, .ref x4), (5, .int x5), (6, .int x6), (7, .int x7)]) hx hb dX9_putApart_118 hl (k := 8) rfl (by rw [ev]; rfl) (by decide) rfl (fun ls hl => ?_)
  clear ev
  refine lv_goto (tgt := 12) hx hb dX9_putApart_121 (by decide) ?_
  exact hself12 x0 x1 x2 x3 x4 x5 x6 x7 v1 _ _ _ _ _ _ hf hCT hM (lv_sub hl [1, 2, 3, 4, 5, 6, 7, 8, 0] rfl)
def g_X9_putApart_116 (Pw : Int32 → ZS → Prop) (self12 : Nat → Nat → Int32 → Int32 → Nat → Int32 → Int32 → Int32 → Int32 → ZS → Nat → Nat → Prop) (x0 : Nat) (x1 : Nat) (x2 : Int32) (x3 : Int32) (x4 : Nat) (x5 : Int32) (x6 : Int32) (x8 : Int32) (t0 : Int32) (S : ZS) (C T : Nat) : Prop :=
  g_X9_putApart_118 Pw self12 x0 x1 x2 x3 x4 x5 x6 t0 x8 S (C) (T)

set_option maxRecDepth 100000 in
set_option maxHeartbeats 4000000 in
theorem w_X9_putApart_116 {p : Program} {l : Launch} {e : Env} {s : State} {m : MethodId} {args : Array Value} {below : List Frame} {meth : Method} {c : Code} {Q : State → Prop} {D : va_G} {y : Nat → ClassId} {A0 : Nat → Prop} {kc kt : Nat} {Pw : Int32 → ZS → Prop} (X : CallFix p m c cX9_putApart 9 s args wsX9_putApart RX9) (hret : zQv p l e ({ frames := 3, cells := kc, slots := kt, locals := 106 } : Room) s m args below meth c Q cX9_putApart D y A0 Pw) {self12 : Nat → Nat → Int32 → Int32 → Nat → Int32 → Int32 → Int32 → Int32 → ZS → Nat → Nat → Prop} (hself12 : ∀ (x0 : Nat) (x1 : Nat) (x2 : Int32) (x3 : Int32) (x4 : Nat) (x5 : Int32) (x6 : Int32) (x7 : Int32) (x8 : Int32) (S : ZS) (C T : Nat) (H : Heap) (locs : List Loc) (ls : Array Slot), self12 x0 x1 x2 x3 x4 x5 x6 x7 x8 S C T → C ≤ kc ∧ T ≤ kt → zH D y A0 s H locs S → lv_has ls 9 [(0, .ref x0), (1, .ref x1), (2, .int x2), (3, .int x3), (4, .ref x4), (5, .int x5), (6, .int x6), (7, .int x7), (8, .int x8)] → W p l e ({ frames := 3, cells := kc, slots := kt, locals := 106 } : Room) s m args below meth c H locs (kc - C) (kt - T) Q (F0 m 12 ls [])) {x0 : Nat} {x1 : Nat} {x2 : Int32} {x3 : Int32} {x4 : Nat} {x5 : Int32} {x6 : Int32} {x8 : Int32} {t0 : Int32} {S : ZS} {C T : Nat} {H : Heap} {locs : List Loc} {ls : Array Slot} (hf : g_X9_putApart_116 Pw self12 x0 x1 x2 x3 x4 x5 x6 x8 t0 S C T) (hCT : C ≤ kc ∧ T ≤ kt) (hM : zH D y A0 s H locs S) (hl : lv_has ls 9 [(0, .ref x0), (1, .ref x1), (2, .int x2), (3, .int x3), (4, .ref x4), (5, .int x5), (6, .int x6), (8, .int x8)]) : W p l e ({ frames := 3, cells := kc, slots := kt, locals := 106 } : Room) s m args below meth c H locs (kc - C) (kt - T) Q (F0 m 116 ls [.int t0]) := by
  obtain ⟨hx, hb, hml, hown, hts⟩ := id X
  unfold g_X9_putApart_116 at hf
  refine lv_istore (lv' := [(7, .int t0), (0, .ref x0), (1, .ref x1), (2, .int x2), (3, .int x3), (4, .ref x4), (5, .int x5), (6, .int x6), (8, .int x8)]) hx hb dX9_putApart_116 hl (by decide) rfl (fun ls hl => ?_)
  exact w_X9_putApart_118 (x0 := x0) (x1 := x1) (x2 := x2) (x3 := x3) (x4 := x4) (x5 := x5) (x6 := x6) (x7 := t0) (x8 := x8) X hret hself12 hf hCT hM (lv_sub hl [1, 2, 3, 4, 5, 6, 7, 0, 8] rfl)
def g_X9_putApart_111 (Pw : Int32 → ZS → Prop) (self12 : Nat → Nat → Int32 → Int32 → Nat → Int32 → Int32 → Int32 → Int32 → ZS → Nat → Nat → Prop) (x0 : Nat) (x1 : Nat) (x2 : Int32) (x3 : Int32) (x4 : Nat) (x5 : Int32) (x6 : Int32) (x8 : Int32) (S : ZS) (C T : Nat) : Prop :=
  g_X9_putApart_116 Pw self12 x0 x1 x2 x3 x4 x5 x6 x8 (1 : Int32) S (C) (T)

set_option maxRecDepth 100000 in
set_option maxHeartbeats 4000000 in
theorem w_X9_putApart_111 {p : Program} {l : Launch} {e : Env} {s : State} {m : MethodId} {args : Array Value} {below : List Frame} {meth : Method} {c : Code} {Q : State → Prop} {D : va_G} {y : Nat → ClassId} {A0 : Nat → Prop} {kc kt : Nat} {Pw : Int32 → ZS → Prop} (X : CallFix p m c cX9_putApart 9 s args wsX9_putApart RX9) (hret : zQv p l e ({ frames := 3, cells := kc, slots := kt, locals := 106 } : Room) s m args below meth c Q cX9_putApart D y A0 Pw) {self12 : Nat → Nat → Int32 → Int32 → Nat → Int32 → Int32 → Int32 → Int32 → ZS → Nat → Nat → Prop} (hself12 : ∀ (x0 : Nat) (x1 : Nat) (x2 : Int32) (x3 : Int32) (x4 : Nat) (x5 : Int32) (x6 : Int32) (x7 : Int32) (x8 : Int32) (S : ZS) (C T : Nat) (H : Heap) (locs : List Loc) (ls : Array Slot), self12 x0 x1 x2 x3 x4 x5 x6 x7 x8 S C T → C ≤ kc ∧ T ≤ kt → zH D y A0 s H locs S → lv_has ls 9 [(0, .ref x0), (1, .ref x1), (2, .int x2), (3, .int x3), (4, .ref x4), (5, .int x5), (6, .int x6), (7, .int x7), (8, .int x8)] → W p l e ({ frames := 3, cells := kc, slots := kt, locals := 106 } : Room) s m args below meth c H locs (kc - C) (kt - T) Q (F0 m 12 ls [])) {x0 : Nat} {x1 : Nat} {x2 : Int32} {x3 : Int32} {x4 : Nat} {x5 : Int32} {x6 : Int32} {x8 : Int32} {S : ZS} {C T : Nat} {H : Heap} {locs : List Loc} {ls : Array Slot} (hf : g_X9_putApart_111 Pw self12 x0 x1 x2 x3 x4 x5 x6 x8 S C T) (hCT : C ≤ kc ∧ T ≤ kt) (hM : zH D y A0 s H locs S) (hl : lv_has ls 9 [(0, .ref x0), (1, .ref x1), (2, .int x2), (3, .int x3), (4, .ref x4), (5, .int x5), (6, .int x6), (8, .int x8)]) : W p l e ({ frames := 3, cells := kc, slots := kt, locals := 106 } : Room) s m args below meth c H locs (kc - C) (kt - T) Q (F0 m 111 ls []) := by
  obtain ⟨hx, hb, hml, hown, hts⟩ := id X
  unfold g_X9_putApart_111 at hf
  refine lv_iconst (v := (1 : Int32)) hx hb dX9_putApart_111 (by decide) ?_
  refine lv_goto (tgt := 116) hx hb dX9_putApart_112 (by decide) ?_
  exact w_X9_putApart_116 (x0 := x0) (x1 := x1) (x2 := x2) (x3 := x3) (x4 := x4) (x5 := x5) (x6 := x6) (x8 := x8) (t0 := (1 : Int32)) X hret hself12 hf hCT hM (lv_sub hl [0, 1, 2, 3, 4, 5, 6, 7] rfl)
def g_X9_putApart_94 (Pw : Int32 → ZS → Prop) (self12 : Nat → Nat → Int32 → Int32 → Nat → Int32 → Int32 → Int32 → Int32 → ZS → Nat → Nat → Prop) (x0 : Nat) (x1 : Nat) (x2 : Int32) (x3 : Int32) (x4 : Nat) (x5 : Int32) (x7 : Int32) (x8 : Int32) (t0 : Int32) (S : ZS) (C T : Nat) : Prop :=
  m_ifP (x7 = 0) (
  m_bndP (x8 >>> ((3 : Int32) &&& 31)) (fun v1 =>
  m_bndP (x2 >>> ((3 : Int32) &&& 31)) (fun v2 =>
  m_ifP (v1 = v2) (
  g_X9_putApart_111 Pw self12 x0 x1 x2 x3 x4 x5 t0 x8 S (C) (T)
  ) (
  g_X9_putApart_116 Pw self12 x0 x1 x2 x3 x4 x5 t0 x8 (0 : Int32) S (C) (T)
  )))
  ) (
  g_X9_putApart_111 Pw self12 x0 x1 x2 x3 x4 x5 t0 x8 S (C) (T)
  )

set_option maxRecDepth 100000 in
set_option maxHeartbeats 4000000 in
theorem w_X9_putApart_94 {p : Program} {l : Launch} {e : Env} {s : State} {m : MethodId} {args : Array Value} {below : List Frame} {meth : Method} {c : Code} {Q : State → Prop} {D : va_G} {y : Nat → ClassId} {A0 : Nat → Prop} {kc kt : Nat} {Pw : Int32 → ZS → Prop} (X : CallFix p m c cX9_putApart 9 s args wsX9_putApart RX9) (hret : zQv p l e ({ frames := 3, cells := kc, slots := kt, locals := 106 } : Room) s m args below meth c Q cX9_putApart D y A0 Pw) {self12 : Nat → Nat → Int32 → Int32 → Nat → Int32 → Int32 → Int32 → Int32 → ZS → Nat → Nat → Prop} (hself12 : ∀ (x0 : Nat) (x1 : Nat) (x2 : Int32) (x3 : Int32) (x4 : Nat) (x5 : Int32) (x6 : Int32) (x7 : Int32) (x8 : Int32) (S : ZS) (C T : Nat) (H : Heap) (locs : List Loc) (ls : Array Slot), self12 x0 x1 x2 x3 x4 x5 x6 x7 x8 S C T → C ≤ kc ∧ T ≤ kt → zH D y A0 s H locs S → lv_has ls 9 [(0, .ref x0), (1, .ref x1), (2, .int x2), (3, .int x3), (4, .ref x4), (5, .int x5), (6, .int x6), (7, .int x7), (8, .int x8)] → W p l e ({ frames := 3, cells := kc, slots := kt, locals := 106 } : Room) s m args below meth c H locs (kc - C) (kt - T) Q (F0 m 12 ls [])) {x0 : Nat} {x1 : Nat} {x2 : Int32} {x3 : Int32} {x4 : Nat} {x5 : Int32} {x7 : Int32} {x8 : Int32} {t0 : Int32} {S : ZS} {C T : Nat} {H : Heap} {locs : List Loc} {ls : Array Slot} (hf : g_X9_putApart_94 Pw self12 x0 x1 x2 x3 x4 x5 x7 x8 t0 S C T) (hCT : C ≤ kc ∧ T ≤ kt) (hM : zH D y A0 s H locs S) (hl : lv_has ls 9 [(0, .ref x0), (1, .ref x1), (2, .int x2), (3, .int x3), (4, .ref x4), (5, .int x5), (7, .int x7), (8, .int x8)]) : W p l e ({ frames := 3, cells := kc, slots := kt, locals := 106 } : Room) s m args below meth c H locs (kc - C) (kt - T) Q (F0 m 94 ls [.int t0]) := by
  obtain ⟨hx, hb, hml, hown, hts⟩ := id X
  unfold g_X9_putApart_94 at hf
  refine lv_istore (lv' := [(6, .int t0), (0, .ref x0), (1, .ref x1), (2, .int x2), (3, .int x3), (4, .ref x4), (5, .int x5), (7, .int x7), (8, .int x8)]) hx hb dX9_putApart_94 hl (by decide) rfl (fun ls hl => ?_)
  refine lv_iload hx hb dX9_putApart_96 (lv_at hl 7 rfl) ?_
  refine lv_if_ne (tgt := 111) hx hb dX9_putApart_98 (by decide) (fun cc1 => ?_) (fun cc1 => ?_)
  · replace hf := m_ifPF hf cc1
    exact w_X9_putApart_111 (x0 := x0) (x1 := x1) (x2 := x2) (x3 := x3) (x4 := x4) (x5 := x5) (x6 := t0) (x8 := x8) X hret hself12 hf hCT hM (lv_sub hl [1, 2, 3, 4, 5, 6, 0, 8] rfl)
  · replace hf := m_ifPT hf cc1
    refine lv_iload hx hb dX9_putApart_101 (lv_at hl 8 rfl) ?_
    refine lv_iconst (v := (3 : Int32)) hx hb dX9_putApart_103 (by decide) ?_
    refine lv_ishr hx hb dX9_putApart_104 ?_
    obtain ⟨v1, ev, hf⟩ := m_bndPE hf
    refine m_top ev ?_
    clear ev
    refine lv_iload_n hx hb dX9_putApart_105 rfl (lv_at hl 3 rfl) ?_
    refine lv_iconst (v := (3 : Int32)) hx hb dX9_putApart_106 (by decide) ?_
    refine lv_ishr hx hb dX9_putApart_107 ?_
    obtain ⟨v2, ev, hf⟩ := m_bndPE hf
    refine m_top ev ?_
    clear ev
    refine lv_icmp_ne (tgt := 115) hx hb dX9_putApart_108 (by decide) (fun cc1 => ?_) (fun cc1 => ?_)
    · replace hf := m_ifPF hf cc1
      refine lv_iconst (v := (0 : Int32)) hx hb dX9_putApart_115 (by decide) ?_
      exact w_X9_putApart_116 (x0 := x0) (x1 := x1) (x2 := x2) (x3 := x3) (x4 := x4) (x5 := x5) (x6 := t0) (x8 := x8) (t0 := (0 : Int32)) X hret hself12 hf hCT hM (lv_sub hl [1, 2, 3, 4, 5, 6, 0, 8] rfl)
    · replace hf := m_ifPT hf cc1
      exact w_X9_putApart_111 (x0 := x0) (x1 := x1) (x2 := x2) (x3 := x3) (x4 := x4) (x5 := x5) (x6 := t0) (x8 := x8) X hret hself12 hf hCT hM (lv_sub hl [1, 2, 3, 4, 5, 6, 0, 8] rfl)
def g_X9_putApart_89 (Pw : Int32 → ZS → Prop) (self12 : Nat → Nat → Int32 → Int32 → Nat → Int32 → Int32 → Int32 → Int32 → ZS → Nat → Nat → Prop) (x0 : Nat) (x1 : Nat) (x2 : Int32) (x3 : Int32) (x4 : Nat) (x5 : Int32) (x7 : Int32) (x8 : Int32) (S : ZS) (C T : Nat) : Prop :=
  g_X9_putApart_94 Pw self12 x0 x1 x2 x3 x4 x5 x7 x8 (1 : Int32) S (C) (T)

set_option maxRecDepth 100000 in
set_option maxHeartbeats 4000000 in
theorem w_X9_putApart_89 {p : Program} {l : Launch} {e : Env} {s : State} {m : MethodId} {args : Array Value} {below : List Frame} {meth : Method} {c : Code} {Q : State → Prop} {D : va_G} {y : Nat → ClassId} {A0 : Nat → Prop} {kc kt : Nat} {Pw : Int32 → ZS → Prop} (X : CallFix p m c cX9_putApart 9 s args wsX9_putApart RX9) (hret : zQv p l e ({ frames := 3, cells := kc, slots := kt, locals := 106 } : Room) s m args below meth c Q cX9_putApart D y A0 Pw) {self12 : Nat → Nat → Int32 → Int32 → Nat → Int32 → Int32 → Int32 → Int32 → ZS → Nat → Nat → Prop} (hself12 : ∀ (x0 : Nat) (x1 : Nat) (x2 : Int32) (x3 : Int32) (x4 : Nat) (x5 : Int32) (x6 : Int32) (x7 : Int32) (x8 : Int32) (S : ZS) (C T : Nat) (H : Heap) (locs : List Loc) (ls : Array Slot), self12 x0 x1 x2 x3 x4 x5 x6 x7 x8 S C T → C ≤ kc ∧ T ≤ kt → zH D y A0 s H locs S → lv_has ls 9 [(0, .ref x0), (1, .ref x1), (2, .int x2), (3, .int x3), (4, .ref x4), (5, .int x5), (6, .int x6), (7, .int x7), (8, .int x8)] → W p l e ({ frames := 3, cells := kc, slots := kt, locals := 106 } : Room) s m args below meth c H locs (kc - C) (kt - T) Q (F0 m 12 ls [])) {x0 : Nat} {x1 : Nat} {x2 : Int32} {x3 : Int32} {x4 : Nat} {x5 : Int32} {x7 : Int32} {x8 : Int32} {S : ZS} {C T : Nat} {H : Heap} {locs : List Loc} {ls : Array Slot} (hf : g_X9_putApart_89 Pw self12 x0 x1 x2 x3 x4 x5 x7 x8 S C T) (hCT : C ≤ kc ∧ T ≤ kt) (hM : zH D y A0 s H locs S) (hl : lv_has ls 9 [(0, .ref x0), (1, .ref x1), (2, .int x2), (3, .int x3), (4, .ref x4), (5, .int x5), (7, .int x7), (8, .int x8)]) : W p l e ({ frames := 3, cells := kc, slots := kt, locals := 106 } : Room) s m args below meth c H locs (kc - C) (kt - T) Q (F0 m 89 ls []) := by
  obtain ⟨hx, hb, hml, hown, hts⟩ := id X
  unfold g_X9_putApart_89 at hf
  refine lv_iconst (v := (1 : Int32)) hx hb dX9_putApart_89 (by decide) ?_
  refine lv_goto (tgt := 94) hx hb dX9_putApart_90 (by decide) ?_
  exact w_X9_putApart_94 (x0 := x0) (x1 := x1) (x2 := x2) (x3 := x3) (x4 := x4) (x5 := x5) (x7 := x7) (x8 := x8) (t0 := (1 : Int32)) X hret hself12 hf hCT hM (lv_sub hl [0, 1, 2, 3, 4, 5, 6, 7] rfl)
def g_X9_putApart_12s (Pw : Int32 → ZS → Prop) (self12 : Nat → Nat → Int32 → Int32 → Nat → Int32 → Int32 → Int32 → Int32 → ZS → Nat → Nat → Prop) (x0 : Nat) (x1 : Nat) (x2 : Int32) (x3 : Int32) (x4 : Nat) (x5 : Int32) (x6 : Int32) (x7 : Int32) (x8 : Int32) (S : ZS) (C T : Nat) : Prop :=
  m_ifP ((64 : Int32) ≤ x8) (
  m_ifP (x5 = 0) (
  g_X9_putApart_148 Pw x2 x4 x6 S (C) (T)
  ) (
  m_ifP (x6 = 0) (
  g_X9_putApart_139 Pw x2 x4 x6 S (C) (T)
  ) (
  m_ifP (x7 = 0) (
  g_X9_putApart_148 Pw x2 x4 x6 S (C) (T)
  ) (
  g_X9_putApart_139 Pw x2 x4 x6 S (C) (T)
  )
  )
  )
  ) (
  m_ifP (x8 = x2) (
  g_X9_putApart_118 Pw self12 x0 x1 x2 x3 x4 x5 x6 x7 x8 S (C) (T)
  ) (
  m_chkP (x1 ∈ zL S ∧ zK S x1 = 0) (
  m_calP (zP S 0 x1) (fun b1 =>
  m_chkP (b1 ∈ zL S ∧ zK S b1 = 14) (
  m_chkP (¬ (x8 < 0 ∨ zN S b1 ≤ (x8).toNatClampNeg)) (
  m_bndP (zA S b1 (x8).toNatClampNeg) (fun v2 =>
  m_chkP (x1 ∈ zL S ∧ zK S x1 = 0) (
  m_calP (zP S 0 x1) (fun b3 =>
  m_chkP (b3 ∈ zL S ∧ zK S b3 = 14) (
  m_chkP (¬ (x2 < 0 ∨ zN S b3 ≤ (x2).toNatClampNeg)) (
  m_bndP (zA S b3 (x2).toNatClampNeg) (fun v4 =>
  m_ifP (v2 = v4) (
  m_chkP (x1 ∈ zL S ∧ zK S x1 = 0) (
  m_calP (f_X0_reaches x1 x8 x3 S) (fun o5 =>
  m_ifP (o5.1 = 0) (
  g_X9_putApart_118 Pw self12 x0 x1 x2 x3 x4 x5 x6 x7 x8 o5.2 (C) (T)
  ) (
  m_chkP (x0 ∈ zL o5.2 ∧ zK o5.2 x0 = 9) (
  m_calP (zP o5.2 0 x0) (fun b6 =>
  m_bndP ((64 : Int32) * x3) (fun v7 =>
  m_bndP (x8 + v7) (fun v8 =>
  m_chkP (b6 ∈ zL o5.2 ∧ zK o5.2 b6 = 7) (
  m_calP (f_X7_isSafe b6 x1 v8 o5.2) (fun o9 =>
  m_ifP (o9.1 = 0) (
  g_X9_putApart_118 Pw self12 x0 x1 x2 x3 x4 x5 x6 x7 x8 o9.2 (C) (T)
  ) (
  m_ifP (x6 = 0) (
  m_bndP (x8 &&& (7 : Int32)) (fun v10 =>
  m_bndP (x2 &&& (7 : Int32)) (fun v11 =>
  m_ifP (v10 = v11) (
  g_X9_putApart_89 Pw self12 x0 x1 x2 x3 x4 (1 : Int32) x7 x8 o9.2 (C) (T)
  ) (
  g_X9_putApart_94 Pw self12 x0 x1 x2 x3 x4 (1 : Int32) x7 x8 (0 : Int32) o9.2 (C) (T)
  )))
  ) (
  g_X9_putApart_89 Pw self12 x0 x1 x2 x3 x4 (1 : Int32) x7 x8 o9.2 (C) (T)
  )
  )))))))
  )))
  ) (
  g_X9_putApart_118 Pw self12 x0 x1 x2 x3 x4 x5 x6 x7 x8 S (C) (T)
  )))))))))))
  )
  )

set_option maxRecDepth 100000 in
set_option maxHeartbeats 4000000 in
theorem ws_X9_putApart_12 {p : Program} {l : Launch} {e : Env} {s : State} {m : MethodId} {args : Array Value} {below : List Frame} {meth : Method} {c : Code} {Q : State → Prop} {D : va_G} {y : Nat → ClassId} {A0 : Nat → Prop} {kc kt : Nat} {Pw : Int32 → ZS → Prop} (X : CallFix p m c cX9_putApart 9 s args wsX9_putApart RX9) (hret : zQv p l e ({ frames := 3, cells := kc, slots := kt, locals := 106 } : Room) s m args below meth c Q cX9_putApart D y A0 Pw) {self12 : Nat → Nat → Int32 → Int32 → Nat → Int32 → Int32 → Int32 → Int32 → ZS → Nat → Nat → Prop} (hself12 : ∀ (x0 : Nat) (x1 : Nat) (x2 : Int32) (x3 : Int32) (x4 : Nat) (x5 : Int32) (x6 : Int32) (x7 : Int32) (x8 : Int32) (S : ZS) (C T : Nat) (H : Heap) (locs : List Loc) (ls : Array Slot), self12 x0 x1 x2 x3 x4 x5 x6 x7 x8 S C T → C ≤ kc ∧ T ≤ kt → zH D y A0 s H locs S → lv_has ls 9 [(0, .ref x0), (1, .ref x1), (2, .int x2), (3, .int x3), (4, .ref x4), (5, .int x5), (6, .int x6), (7, .int x7), (8, .int x8)] → W p l e ({ frames := 3, cells := kc, slots := kt, locals := 106 } : Room) s m args below meth c H locs (kc - C) (kt - T) Q (F0 m 12 ls [])) {x0 : Nat} {x1 : Nat} {x2 : Int32} {x3 : Int32} {x4 : Nat} {x5 : Int32} {x6 : Int32} {x7 : Int32} {x8 : Int32} {S : ZS} {C T : Nat} {H : Heap} {locs : List Loc} {ls : Array Slot} (hf : g_X9_putApart_12s Pw self12 x0 x1 x2 x3 x4 x5 x6 x7 x8 S C T) (hCT : C ≤ kc ∧ T ≤ kt) (hM : zH D y A0 s H locs S) (hl : lv_has ls 9 [(0, .ref x0), (1, .ref x1), (2, .int x2), (3, .int x3), (4, .ref x4), (5, .int x5), (6, .int x6), (7, .int x7), (8, .int x8)]) : W p l e ({ frames := 3, cells := kc, slots := kt, locals := 106 } : Room) s m args below meth c H locs (kc - C) (kt - T) Q (F0 m 12 ls []) := by
  obtain ⟨hx, hb, hml, hown, hts⟩ := id X
  unfold g_X9_putApart_12s at hf
  refine lv_iload hx hb dX9_putApart_12 (lv_at hl 8 rfl) ?_
  refine lv_bipush (v := (64 : Int32)) hx hb dX9_putApart_14 (by decide) ?_
  refine lv_icmp_ge (tgt := 124) hx hb dX9_putApart_16 (by decide) (fun cc1 => ?_) (fun cc1 => ?_)
  · replace hf := m_ifPT hf cc1
    refine lv_iload hx hb dX9_putApart_124 (lv_at hl 5 rfl) ?_
    refine lv_if_eq (tgt := 148) hx hb dX9_putApart_126 (by decide) (fun cc1 => ?_) (fun cc1 => ?_)
    · replace hf := m_ifPT hf cc1
      exact w_X9_putApart_148 (x2 := x2) (x4 := x4) (x6 := x6) X hret hf hCT hM (lv_sub hl [2, 4, 6] rfl)
    · replace hf := m_ifPF hf cc1
      refine lv_iload hx hb dX9_putApart_129 (lv_at hl 6 rfl) ?_
      refine lv_if_eq (tgt := 139) hx hb dX9_putApart_131 (by decide) (fun cc1 => ?_) (fun cc1 => ?_)
      · replace hf := m_ifPT hf cc1
        exact w_X9_putApart_139 (x2 := x2) (x4 := x4) (x6 := x6) X hret hf hCT hM (lv_sub hl [2, 4, 6] rfl)
      · replace hf := m_ifPF hf cc1
        refine lv_iload hx hb dX9_putApart_134 (lv_at hl 7 rfl) ?_
        refine lv_if_eq (tgt := 148) hx hb dX9_putApart_136 (by decide) (fun cc1 => ?_) (fun cc1 => ?_)
        · replace hf := m_ifPT hf cc1
          exact w_X9_putApart_148 (x2 := x2) (x4 := x4) (x6 := x6) X hret hf hCT hM (lv_sub hl [2, 4, 6] rfl)
        · replace hf := m_ifPF hf cc1
          exact w_X9_putApart_139 (x2 := x2) (x4 := x4) (x6 := x6) X hret hf hCT hM (lv_sub hl [2, 4, 6] rfl)
  · replace hf := m_ifPF hf cc1
    refine lv_iload hx hb dX9_putApart_19 (lv_at hl 8 rfl) ?_
    refine lv_iload_n hx hb dX9_putApart_21 rfl (lv_at hl 2 rfl) ?_
    refine lv_icmp_eq (tgt := 118) hx hb dX9_putApart_22 (by decide) (fun cc1 => ?_) (fun cc1 => ?_)
    · replace hf := m_ifPT hf cc1
      exact w_X9_putApart_118 (x0 := x0) (x1 := x1) (x2 := x2) (x3 := x3) (x4 := x4) (x5 := x5) (x6 := x6) (x7 := x7) (x8 := x8) X hret hself12 hf hCT hM (lv_sub hl [0, 1, 2, 3, 4, 5, 6, 7, 8] rfl)
    · replace hf := m_ifPF hf cc1
      refine lv_aload_n hx hb dX9_putApart_25 rfl (lv_at hl 1 rfl) ?_
      obtain ⟨ca, hf⟩ := m_chkPE hf
      refine z_get (k := 0) (j := 0) (C := RX0) (T := TX0) (N := 7) (fl := zf_0) (v := va_rf (zP S 0 x1)) X hw_X9_putApart_0 hM rfl zc_0 ca (by decide) fl_X9_putApart_0_0 rfl dX9_putApart_26 ?_
      clear ca
      obtain ⟨b1, hb9, hf⟩ := m_calPE hf
      refine z_topr hb9 ?_
      clear hb9
      refine lv_iload hx hb dX9_putApart_29 (lv_at hl 8 rfl) ?_
      obtain ⟨ca, hf⟩ := m_chkPE hf
      obtain ⟨cd, hf⟩ := m_chkPE hf
      refine z_iald X hM ca cd dX9_putApart_31 ?_
      clear ca cd
      obtain ⟨v2, ev, hf⟩ := m_bndPE hf
      refine m_top ev ?_
      clear ev
      refine lv_aload_n hx hb dX9_putApart_32 rfl (lv_at hl 1 rfl) ?_
      obtain ⟨ca, hf⟩ := m_chkPE hf
      refine z_get (k := 0) (j := 0) (C := RX0) (T := TX0) (N := 7) (fl := zf_0) (v := va_rf (zP S 0 x1)) X hw_X9_putApart_0 hM rfl zc_0 ca (by decide) fl_X9_putApart_0_0 rfl dX9_putApart_33 ?_
      clear ca
      obtain ⟨b3, hb9, hf⟩ := m_calPE hf
      refine z_topr hb9 ?_
      clear hb9
      refine lv_iload_n hx hb dX9_putApart_36 rfl (lv_at hl 2 rfl) ?_
      obtain ⟨ca, hf⟩ := m_chkPE hf
      obtain ⟨cd, hf⟩ := m_chkPE hf
      refine z_iald X hM ca cd dX9_putApart_37 ?_
      clear ca cd
      obtain ⟨v4, ev, hf⟩ := m_bndPE hf
      refine m_top ev ?_
      clear ev
      refine lv_icmp_ne (tgt := 118) hx hb dX9_putApart_38 (by decide) (fun cc1 => ?_) (fun cc1 => ?_)
      · replace hf := m_ifPF hf cc1
        exact w_X9_putApart_118 (x0 := x0) (x1 := x1) (x2 := x2) (x3 := x3) (x4 := x4) (x5 := x5) (x6 := x6) (x7 := x7) (x8 := x8) X hret hself12 hf hCT hM (lv_sub hl [0, 1, 2, 3, 4, 5, 6, 7, 8] rfl)
      · replace hf := m_ifPT hf cc1
        refine lv_aload_n hx hb dX9_putApart_41 rfl (lv_at hl 1 rfl) ?_
        refine lv_iload hx hb dX9_putApart_42 (lv_at hl 8 rfl) ?_
        refine lv_iload_n hx hb dX9_putApart_44 rfl (lv_at hl 3 rfl) ?_
        obtain ⟨ca, hf⟩ := m_chkPE hf
        obtain ⟨o5, ho, hf⟩ := m_calPE hf
        refine z_gcallVi (k := 0) (C := RX0) (T := TX0) (N := 7) (fl := zf_0) X hM rfl zc_0 ca (c_X0_reaches ho) gX9_putApart_X0_reaches rfl ⟨rfl, rfl⟩ hd_X0_reaches ⟨Nat.le_of_ble_eq_true rfl, Nat.le_of_ble_eq_true rfl⟩ rfl hl.1 rfl ⟨Nat.sub_le _ _, Nat.sub_le _ _⟩ (Nat.le_of_ble_eq_true rfl) dX9_putApart_45 (fun H locs hM => ?_)
        clear ho
        refine lv_if_eq (tgt := 118) hx hb dX9_putApart_48 (by decide) (fun cc1 => ?_) (fun cc1 => ?_)
        · replace hf := m_ifPT hf cc1
          exact w_X9_putApart_118 (x0 := x0) (x1 := x1) (x2 := x2) (x3 := x3) (x4 := x4) (x5 := x5) (x6 := x6) (x7 := x7) (x8 := x8) X hret hself12 hf hCT hM (lv_sub hl [0, 1, 2, 3, 4, 5, 6, 7, 8] rfl)
        · replace hf := m_ifPF hf cc1
          refine lv_aload_n hx hb dX9_putApart_51 rfl (lv_at hl 0 rfl) ?_
          obtain ⟨ca, hf⟩ := m_chkPE hf
          refine z_get (k := 9) (j := 0) (C := RX9) (T := TX9) (N := 1) (fl := zf_9) (v := va_rf (zP o5.2 0 x0)) X hw_X9_putApart_9 hM rfl zc_9 ca (by decide) fl_X9_putApart_9_0 rfl dX9_putApart_52 ?_
          clear ca
          obtain ⟨b6, hb9, hf⟩ := m_calPE hf
          refine z_topr hb9 ?_
          clear hb9
          refine lv_aload_n hx hb dX9_putApart_55 rfl (lv_at hl 1 rfl) ?_
          refine lv_iload hx hb dX9_putApart_56 (lv_at hl 8 rfl) ?_
          refine lv_bipush (v := (64 : Int32)) hx hb dX9_putApart_58 (by decide) ?_
          refine lv_iload_n hx hb dX9_putApart_60 rfl (lv_at hl 3 rfl) ?_
          refine lv_imul hx hb dX9_putApart_61 ?_
          obtain ⟨v7, ev, hf⟩ := m_bndPE hf
          refine m_top ev ?_
          clear ev
          refine lv_iadd hx hb dX9_putApart_62 ?_
          obtain ⟨v8, ev, hf⟩ := m_bndPE hf
          refine m_top ev ?_
          clear ev
          obtain ⟨ca, hf⟩ := m_chkPE hf
          obtain ⟨o9, ho, hf⟩ := m_calPE hf
          refine z_gcallVi (k := 7) (C := RX7) (T := TX7) (N := 2) (fl := zf_7) X hM rfl zc_7 ca (c_X7_isSafe ho) gX9_putApart_X7_isSafe rfl ⟨rfl, rfl⟩ hd_X7_isSafe ⟨Nat.le_of_ble_eq_true rfl, Nat.le_of_ble_eq_true rfl⟩ rfl hl.1 rfl ⟨Nat.sub_le _ _, Nat.sub_le _ _⟩ (Nat.le_of_ble_eq_true rfl) dX9_putApart_63 (fun H locs hM => ?_)
          clear ho
          refine lv_if_eq (tgt := 118) hx hb dX9_putApart_66 (by decide) (fun cc1 => ?_) (fun cc1 => ?_)
          · replace hf := m_ifPT hf cc1
            exact w_X9_putApart_118 (x0 := x0) (x1 := x1) (x2 := x2) (x3 := x3) (x4 := x4) (x5 := x5) (x6 := x6) (x7 := x7) (x8 := x8) X hret hself12 hf hCT hM (lv_sub hl [0, 1, 2, 3, 4, 5, 6, 7, 8] rfl)
          · replace hf := m_ifPF hf cc1
            refine lv_iconst (v := (1 : Int32)) hx hb dX9_putApart_69 (by decide) ?_
            refine lv_istore (lv' := [(5, .int (1 : Int32)), (0, .ref x0), (1, .ref x1), (2, .int x2), (3, .int x3), (4, .ref x4), (6, .int x6), (7, .int x7), (8, .int x8)]) hx hb dX9_putApart_70 hl (by decide) rfl (fun ls hl => ?_)
            refine lv_iload hx hb dX9_putApart_72 (lv_at hl 6 rfl) ?_
            refine lv_if_ne (tgt := 89) hx hb dX9_putApart_74 (by decide) (fun cc1 => ?_) (fun cc1 => ?_)
            · replace hf := m_ifPF hf cc1
              exact w_X9_putApart_89 (x0 := x0) (x1 := x1) (x2 := x2) (x3 := x3) (x4 := x4) (x5 := (1 : Int32)) (x7 := x7) (x8 := x8) X hret hself12 hf hCT hM (lv_sub hl [1, 2, 3, 4, 5, 0, 7, 8] rfl)
            · replace hf := m_ifPT hf cc1
              refine lv_iload hx hb dX9_putApart_77 (lv_at hl 8 rfl) ?_
              refine lv_bipush (v := (7 : Int32)) hx hb dX9_putApart_79 (by decide) ?_
              refine lv_iand hx hb dX9_putApart_81 ?_
              obtain ⟨v10, ev, hf⟩ := m_bndPE hf
              refine m_top ev ?_
              clear ev
              refine lv_iload_n hx hb dX9_putApart_82 rfl (lv_at hl 3 rfl) ?_
              refine lv_bipush (v := (7 : Int32)) hx hb dX9_putApart_83 (by decide) ?_
              refine lv_iand hx hb dX9_putApart_85 ?_
              obtain ⟨v11, ev, hf⟩ := m_bndPE hf
              refine m_top ev ?_
              clear ev
              refine lv_icmp_ne (tgt := 93) hx hb dX9_putApart_86 (by decide) (fun cc1 => ?_) (fun cc1 => ?_)
              · replace hf := m_ifPF hf cc1
                refine lv_iconst (v := (0 : Int32)) hx hb dX9_putApart_93 (by decide) ?_
                exact w_X9_putApart_94 (x0 := x0) (x1 := x1) (x2 := x2) (x3 := x3) (x4 := x4) (x5 := (1 : Int32)) (x7 := x7) (x8 := x8) (t0 := (0 : Int32)) X hret hself12 hf hCT hM (lv_sub hl [1, 2, 3, 4, 5, 0, 7, 8] rfl)
              · replace hf := m_ifPT hf cc1
                exact w_X9_putApart_89 (x0 := x0) (x1 := x1) (x2 := x2) (x3 := x3) (x4 := x4) (x5 := (1 : Int32)) (x7 := x7) (x8 := x8) X hret hself12 hf hCT hM (lv_sub hl [1, 2, 3, 4, 5, 0, 7, 8] rfl)
def g_X9_putApart_12 (Pw : Int32 → ZS → Prop) : Nat → Nat → Nat → Int32 → Int32 → Nat → Int32 → Int32 → Int32 → Int32 → ZS → Nat → Nat → Prop
  | 0 => fun _ _ _ _ _ _ _ _ _ _ _ _ => False
  | n + 1 => g_X9_putApart_12s Pw (g_X9_putApart_12 Pw n)
theorem w_X9_putApart_12 {p : Program} {l : Launch} {e : Env} {s : State} {m : MethodId} {args : Array Value} {below : List Frame} {meth : Method} {c : Code} {Q : State → Prop} {D : va_G} {y : Nat → ClassId} {A0 : Nat → Prop} {kc kt : Nat} {Pw : Int32 → ZS → Prop} (X : CallFix p m c cX9_putApart 9 s args wsX9_putApart RX9) (hret : zQv p l e ({ frames := 3, cells := kc, slots := kt, locals := 106 } : Room) s m args below meth c Q cX9_putApart D y A0 Pw) (n : Nat) : ∀ (x0 : Nat) (x1 : Nat) (x2 : Int32) (x3 : Int32) (x4 : Nat) (x5 : Int32) (x6 : Int32) (x7 : Int32) (x8 : Int32) (S : ZS) (C T : Nat) (H : Heap) (locs : List Loc) (ls : Array Slot), g_X9_putApart_12 Pw n x0 x1 x2 x3 x4 x5 x6 x7 x8 S C T → C ≤ kc ∧ T ≤ kt → zH D y A0 s H locs S → lv_has ls 9 [(0, .ref x0), (1, .ref x1), (2, .int x2), (3, .int x3), (4, .ref x4), (5, .int x5), (6, .int x6), (7, .int x7), (8, .int x8)] → W p l e ({ frames := 3, cells := kc, slots := kt, locals := 106 } : Room) s m args below meth c H locs (kc - C) (kt - T) Q (F0 m 12 ls []) := by
  induction n with
  | zero => intro x0 x1 x2 x3 x4 x5 x6 x7 x8 S C T H locs ls hf; exact absurd hf id
  | succ n ih => intro x0 x1 x2 x3 x4 x5 x6 x7 x8 S C T H locs ls hf hCT hM hl; exact ws_X9_putApart_12 X hret (self12 := g_X9_putApart_12 Pw n) ih hf hCT hM hl
def g_X9_putApart_0 (Pw : Int32 → ZS → Prop) (x0 : Nat) (x1 : Nat) (x2 : Int32) (x3 : Int32) (x4 : Nat) (S : ZS) (C T : Nat) : Prop :=
  g_X9_putApart_12 Pw mFuel x0 x1 x2 x3 x4 (0 : Int32) (0 : Int32) (0 : Int32) (0 : Int32) S (C) (T)

set_option maxRecDepth 100000 in
set_option maxHeartbeats 4000000 in
theorem w_X9_putApart_0 {p : Program} {l : Launch} {e : Env} {s : State} {m : MethodId} {args : Array Value} {below : List Frame} {meth : Method} {c : Code} {Q : State → Prop} {D : va_G} {y : Nat → ClassId} {A0 : Nat → Prop} {kc kt : Nat} {Pw : Int32 → ZS → Prop} (X : CallFix p m c cX9_putApart 9 s args wsX9_putApart RX9) (hret : zQv p l e ({ frames := 3, cells := kc, slots := kt, locals := 106 } : Room) s m args below meth c Q cX9_putApart D y A0 Pw) {x0 : Nat} {x1 : Nat} {x2 : Int32} {x3 : Int32} {x4 : Nat} {S : ZS} {C T : Nat} {H : Heap} {locs : List Loc} {ls : Array Slot} (hf : g_X9_putApart_0 Pw x0 x1 x2 x3 x4 S C T) (hCT : C ≤ kc ∧ T ≤ kt) (hM : zH D y A0 s H locs S) (hl : lv_has ls 9 [(0, .ref x0), (1, .ref x1), (2, .int x2), (3, .int x3), (4, .ref x4)]) : W p l e ({ frames := 3, cells := kc, slots := kt, locals := 106 } : Room) s m args below meth c H locs (kc - C) (kt - T) Q (F0 m 0 ls []) := by
  obtain ⟨hx, hb, hml, hown, hts⟩ := id X
  unfold g_X9_putApart_0 at hf
  refine lv_iconst (v := (0 : Int32)) hx hb dX9_putApart_0 (by decide) ?_
  refine lv_istore (lv' := [(5, .int (0 : Int32)), (0, .ref x0), (1, .ref x1), (2, .int x2), (3, .int x3), (4, .ref x4)]) hx hb dX9_putApart_1 hl (by decide) rfl (fun ls hl => ?_)
  refine lv_iconst (v := (0 : Int32)) hx hb dX9_putApart_3 (by decide) ?_
  refine lv_istore (lv' := [(6, .int (0 : Int32)), (5, .int (0 : Int32)), (0, .ref x0), (1, .ref x1), (2, .int x2), (3, .int x3), (4, .ref x4)]) hx hb dX9_putApart_4 hl (by decide) rfl (fun ls hl => ?_)
  refine lv_iconst (v := (0 : Int32)) hx hb dX9_putApart_6 (by decide) ?_
  refine lv_istore (lv' := [(7, .int (0 : Int32)), (6, .int (0 : Int32)), (5, .int (0 : Int32)), (0, .ref x0), (1, .ref x1), (2, .int x2), (3, .int x3), (4, .ref x4)]) hx hb dX9_putApart_7 hl (by decide) rfl (fun ls hl => ?_)
  refine lv_iconst (v := (0 : Int32)) hx hb dX9_putApart_9 (by decide) ?_
  refine lv_istore (lv' := [(8, .int (0 : Int32)), (7, .int (0 : Int32)), (6, .int (0 : Int32)), (5, .int (0 : Int32)), (0, .ref x0), (1, .ref x1), (2, .int x2), (3, .int x3), (4, .ref x4)]) hx hb dX9_putApart_10 hl (by decide) rfl (fun ls hl => ?_)
  exact w_X9_putApart_12 X hret _ x0 x1 x2 x3 x4 (0 : Int32) (0 : Int32) (0 : Int32) (0 : Int32) _ _ _ _ _ _ hf hCT hM (lv_sub hl [4, 5, 6, 7, 8, 3, 2, 1, 0] rfl)
def g_X9_putApart (x0 : Nat) (x1 : Nat) (x2 : Int32) (x3 : Int32) (x4 : Nat) (S : ZS) (mc ms : Nat) (Pw : Int32 → ZS → Prop) : Prop := g_X9_putApart_0 Pw x0 x1 x2 x3 x4 S mc ms
theorem c_X9_putApart {l : Launch} {D : va_G} {y : Nat → ClassId} {x0 : Nat} {x1 : Nat} {x2 : Int32} {x3 : Int32} {x4 : Nat} {S : ZS} {kc kt : Nat} {Pw : Int32 → ZS → Prop} (hf : g_X9_putApart x0 x1 x2 x3 x4 S kc kt Pw) : zWv l yX9_putApart wsX9_putApart ({ frames := 3, cells := kc, slots := kt, locals := 106 } : Room) [.ref x0, .ref x1, .int x2, .int x3, .ref x4] D y S kc kt Pw :=
  z_wentV (own := RX9) (cc := cX9_putApart) (maxL := 9) (by decide) rfl rfl (Nat.le_of_ble_eq_true rfl) ⟨rfl, rfl⟩ (fun p e s m args below meth c A0 Q H locs ls X hret hM hl => w_X9_putApart_0 X hret hf ⟨Nat.le_refl _, Nat.le_refl _⟩ hM (lv_sub hl [0, 1, 2, 3, 4] rfl))
theorem hd_X9_putApart : yX9_putApart.cls = RX9 ∧ yX9_putApart.cls ≠ "java/lang/invoke/MethodHandle" ∧ yX9_putApart.cls ≠ "java/lang/invoke/VarHandle" ∧ (parseMethodDescriptor yX9_putApart.desc).map (fun d => d.parameters.length) = some 4 := by decide +kernel
theorem fl_X9_putSigns_9_0 : Cond.fieldLink RX9 12 "MoveTexts$SignWriter" "rules" "LMoveTexts$Rules;" ∈ wsX9_putSigns := by decide +kernel
theorem hw_X9_putSigns_9 : ∀ w ∈ wsX90, w ∈ wsX9_putSigns := by decide +kernel
theorem nn_X9_putSigns_41 : ((RX9, 41, yX11_letterOf, "MoveTexts") ∈ zNW ∧ Cond.initialized yX11_letterOf.cls ∈ wsX9_putSigns) ∧ Cond.static yX11_letterOf ∈ wsX9_putSigns := by decide +kernel
theorem nn_X9_putSigns_53 : ((RX9, 53, yX11_fileLetter, "MoveTexts") ∈ zNW ∧ Cond.initialized yX11_fileLetter.cls ∈ wsX9_putSigns) ∧ Cond.static yX11_fileLetter ∈ wsX9_putSigns := by decide +kernel
theorem nn_X9_putSigns_56 : ((RX9, 56, yX11_rankDigit, "MoveTexts") ∈ zNW ∧ Cond.initialized yX11_rankDigit.cls ∈ wsX9_putSigns) ∧ Cond.static yX11_rankDigit ∈ wsX9_putSigns := by decide +kernel
theorem sr_X9_putSigns_24 : (RX9, 24, "O-O", 7) ∈ zSR := by decide +kernel
theorem sr_X9_putSigns_26 : (RX9, 26, "O-O-O", 8) ∈ zSR := by decide +kernel
def g_X9_putSigns_182 (Pw : Int32 → ZS → Prop) (S : ZS) (C T : Nat) : Prop :=
  Pw 0 S

set_option maxRecDepth 100000 in
set_option maxHeartbeats 4000000 in
theorem w_X9_putSigns_182 {p : Program} {l : Launch} {e : Env} {s : State} {m : MethodId} {args : Array Value} {below : List Frame} {meth : Method} {c : Code} {Q : State → Prop} {D : va_G} {y : Nat → ClassId} {A0 : Nat → Prop} {kc kt : Nat} {Pw : Int32 → ZS → Prop} (X : CallFix p m c cX9_putSigns 7 s args wsX9_putSigns RX9) (hret : zQv p l e ({ frames := 5, cells := kc, slots := kt, locals := 134 } : Room) s m args below meth c Q cX9_putSigns D y A0 Pw) {S : ZS} {C T : Nat} {H : Heap} {locs : List Loc} {ls : Array Slot} (hf : g_X9_putSigns_182 Pw  S C T) (hCT : C ≤ kc ∧ T ≤ kt) (hM : zH D y A0 s H locs S) (hl : lv_has ls 7 []) : W p l e ({ frames := 5, cells := kc, slots := kt, locals := 134 } : Room) s m args below meth c H locs (kc - C) (kt - T) Q (F0 m 182 ls []) := by
  obtain ⟨hx, hb, hml, hown, hts⟩ := id X
  unfold g_X9_putSigns_182 at hf
  exact hret _ _ _ H locs _ ls hf hM dX9_putSigns_182
def g_X9_putSigns_160 (Pw : Int32 → ZS → Prop) (x0 : Nat) (x1 : Nat) (x2 : Int32) (x3 : Nat) (S : ZS) (C T : Nat) : Prop :=
  m_chkP (x0 ∈ zL S ∧ zK S x0 = 9) (
  m_calP (zP S 0 x0) (fun b1 =>
  m_chkP (b1 ∈ zL S ∧ zK S b1 = 7) (
  m_calP (f_X7_checkSign b1 x1 x2 S) (fun o2 =>
  m_ifP (o2.1 = 0) (
  g_X9_putSigns_182 Pw  o2.2 (C) (T)
  ) (
  m_chkP (x3 ∈ zL o2.2 ∧ zK o2.2 x3 = 6) (
  m_gal (C) (T) (fun mc ms Pw => g_X6_put x3 o2.1 o2.2 mc ms Pw) (fun r4 S5 C6 T7 =>
  g_X9_putSigns_182 Pw  S5 (C6) (T7)))
  )))))

set_option maxRecDepth 100000 in
set_option maxHeartbeats 4000000 in
theorem w_X9_putSigns_160 {p : Program} {l : Launch} {e : Env} {s : State} {m : MethodId} {args : Array Value} {below : List Frame} {meth : Method} {c : Code} {Q : State → Prop} {D : va_G} {y : Nat → ClassId} {A0 : Nat → Prop} {kc kt : Nat} {Pw : Int32 → ZS → Prop} (X : CallFix p m c cX9_putSigns 7 s args wsX9_putSigns RX9) (hret : zQv p l e ({ frames := 5, cells := kc, slots := kt, locals := 134 } : Room) s m args below meth c Q cX9_putSigns D y A0 Pw) {x0 : Nat} {x1 : Nat} {x2 : Int32} {x3 : Nat} {S : ZS} {C T : Nat} {H : Heap} {locs : List Loc} {ls : Array Slot} (hf : g_X9_putSigns_160 Pw x0 x1 x2 x3 S C T) (hCT : C ≤ kc ∧ T ≤ kt) (hM : zH D y A0 s H locs S) (hl : lv_has ls 7 [(0, .ref x0), (1, .ref x1), (2, .int x2), (3, .ref x3)]) : W p l e ({ frames := 5, cells := kc, slots := kt, locals := 134 } : Room) s m args below meth c H locs (kc - C) (kt - T) Q (F0 m 160 ls []) := by
  obtain ⟨hx, hb, hml, hown, hts⟩ := id X
  unfold g_X9_putSigns_160 at hf
  refine lv_aload_n hx hb dX9_putSigns_160 rfl (lv_at hl 0 rfl) ?_
  obtain ⟨ca, hf⟩ := m_chkPE hf
  refine z_get (k := 9) (j := 0) (C := RX9) (T := TX9) (N := 1) (fl := zf_9) (v := va_rf (zP S 0 x0)) X hw_X9_putSigns_9 hM rfl zc_9 ca (by decide) fl_X9_putSigns_9_0 rfl dX9_putSigns_161 ?_
  clear ca
  obtain ⟨b1, hb9, hf⟩ := m_calPE hf
  refine z_topr hb9 ?_
  clear hb9
  refine lv_aload_n hx hb dX9_putSigns_164 rfl (lv_at hl 1 rfl) ?_
  refine lv_iload_n hx hb dX9_putSigns_165 rfl (lv_at hl 2 rfl) ?_
  obtain ⟨ca, hf⟩ := m_chkPE hf
  obtain ⟨o2, ho, hf⟩ := m_calPE hf
  refine z_gcallVi (k := 7) (C := RX7) (T := TX7) (N := 2) (fl := zf_7) X hM rfl zc_7 ca (c_X7_checkSign ho) gX9_putSigns_X7_checkSign rfl ⟨rfl, rfl⟩ hd_X7_checkSign ⟨Nat.le_of_ble_eq_true rfl, Nat.le_of_ble_eq_true rfl⟩ rfl hl.1 rfl ⟨Nat.sub_le _ _, Nat.sub_le _ _⟩ (Nat.le_of_ble_eq_true rfl) dX9_putSigns_166 (fun H locs hM => ?_)
  clear ho
  refine lv_istore (lv' := [(6, .int o2.1), (0, .ref x0), (1, .ref x1), (2, .int x2), (3, .ref x3)]) hx hb dX9_putSigns_169 hl (by decide) rfl (fun ls hl => ?_)
  refine lv_iload hx hb dX9_putSigns_171 (lv_at hl 0 rfl) ?_
  refine lv_if_eq (tgt := 182) hx hb dX9_putSigns_173 (by decide) (fun cc1 => ?_) (fun cc1 => ?_)
  · replace hf := m_ifPT hf cc1
    exact w_X9_putSigns_182 X hret hf hCT hM (lv_sub hl [] rfl)
  · replace hf := m_ifPF hf cc1
    refine lv_aload_n hx hb dX9_putSigns_176 rfl (lv_at hl 4 rfl) ?_
    refine lv_iload hx hb dX9_putSigns_177 (lv_at hl 0 rfl) ?_
    obtain ⟨ca, hf⟩ := m_chkPE hf
    obtain ⟨mc, ms, hcm, ho⟩ := m_galE hf
    refine z_wcallVv (k := 6) (C := RX6) (T := TX6) (N := 2) (fl := zf_6) X hM rfl zc_6 ca (c_X6_put ho) gX9_putSigns_X6_put rfl ⟨rfl, rfl⟩ ⟨by show kc - (C) + mc ≤ kc; omega, by show kt - (T) + ms ≤ kt; omega⟩ hd_X6_put ⟨Nat.le_of_ble_eq_true rfl, Nat.le_of_ble_eq_true rfl⟩ rfl hl.1 rfl (Nat.le_of_ble_eq_true rfl) dX9_putSigns_179 (fun S5 H locs hf hM => ?_)
    refine z_eqCS (c2 := kc - (C - mc)) (t2 := kt - (T - ms)) (by omega) (by omega) ?_
    replace hCT : C - mc ≤ kc ∧ T - ms ≤ kt := by omega
    generalize C - mc = C6 at hf hCT ⊢
    generalize T - ms = T7 at hf hCT ⊢
    clear ho hcm
    exact w_X9_putSigns_182 X hret hf hCT hM (lv_sub hl [] rfl)
def g_X9_putSigns_136 (Pw : Int32 → ZS → Prop) (x0 : Nat) (x1 : Nat) (x2 : Int32) (x3 : Nat) (S : ZS) (C T : Nat) : Prop :=
  m_ifP (x2 < (4096 : Int32)) (
  g_X9_putSigns_160 Pw x0 x1 x2 x3 S (C) (T)
  ) (
  m_chkP (x3 ∈ zL S ∧ zK S x3 = 6) (
  m_gal (C) (T) (fun mc ms Pw => g_X6_put x3 (61 : Int32) S mc ms Pw) (fun r2 S3 C4 T5 =>
  m_bndP (x2 >>> ((12 : Int32) &&& 31)) (fun v6 =>
  m_calP (f_X11_letterOf v6 S3) (fun o7 =>
  m_chkP (x3 ∈ zL o7.2 ∧ zK o7.2 x3 = 6) (
  m_gal (C4) (T5) (fun mc ms Pw => g_X6_put x3 o7.1 o7.2 mc ms Pw) (fun r9 S10 C11 T12 =>
  g_X9_putSigns_160 Pw x0 x1 x2 x3 S10 (C11) (T12)))))))
  )

set_option maxRecDepth 100000 in
set_option maxHeartbeats 4000000 in
theorem w_X9_putSigns_136 {p : Program} {l : Launch} {e : Env} {s : State} {m : MethodId} {args : Array Value} {below : List Frame} {meth : Method} {c : Code} {Q : State → Prop} {D : va_G} {y : Nat → ClassId} {A0 : Nat → Prop} {kc kt : Nat} {Pw : Int32 → ZS → Prop} (X : CallFix p m c cX9_putSigns 7 s args wsX9_putSigns RX9) (hret : zQv p l e ({ frames := 5, cells := kc, slots := kt, locals := 134 } : Room) s m args below meth c Q cX9_putSigns D y A0 Pw) {x0 : Nat} {x1 : Nat} {x2 : Int32} {x3 : Nat} {S : ZS} {C T : Nat} {H : Heap} {locs : List Loc} {ls : Array Slot} (hf : g_X9_putSigns_136 Pw x0 x1 x2 x3 S C T) (hCT : C ≤ kc ∧ T ≤ kt) (hM : zH D y A0 s H locs S) (hl : lv_has ls 7 [(0, .ref x0), (1, .ref x1), (2, .int x2), (3, .ref x3)]) : W p l e ({ frames := 5, cells := kc, slots := kt, locals := 134 } : Room) s m args below meth c H locs (kc - C) (kt - T) Q (F0 m 136 ls []) := by
  obtain ⟨hx, hb, hml, hown, hts⟩ := id X
  unfold g_X9_putSigns_136 at hf
  refine lv_iload_n hx hb dX9_putSigns_136 rfl (lv_at hl 2 rfl) ?_
  refine lv_sipush (v := (4096 : Int32)) hx hb dX9_putSigns_137 (by decide) ?_
  refine lv_icmp_lt (tgt := 160) hx hb dX9_putSigns_140 (by decide) (fun cc1 => ?_) (fun cc1 => ?_)
  · replace hf := m_ifPT hf cc1
    exact w_X9_putSigns_160 (x0 := x0) (x1 := x1) (x2 := x2) (x3 := x3) X hret hf hCT hM (lv_sub hl [0, 1, 2, 3] rfl)
  · replace hf := m_ifPF hf cc1
    refine lv_aload_n hx hb dX9_putSigns_143 rfl (lv_at hl 3 rfl) ?_
    refine lv_bipush (v := (61 : Int32)) hx hb dX9_putSigns_144 (by decide) ?_
    obtain ⟨ca, hf⟩ := m_chkPE hf
    obtain ⟨mc, ms, hcm, ho⟩ := m_galE hf
    refine z_wcallVv (k := 6) (C := RX6) (T := TX6) (N := 2) (fl := zf_6) X hM rfl zc_6 ca (c_X6_put ho) gX9_putSigns_X6_put rfl ⟨rfl, rfl⟩ ⟨by show kc - (C) + mc ≤ kc; omega, by show kt - (T) + ms ≤ kt; omega⟩ hd_X6_put ⟨Nat.le_of_ble_eq_true rfl, Nat.le_of_ble_eq_true rfl⟩ rfl hl.1 rfl (Nat.le_of_ble_eq_true rfl) dX9_putSigns_146 (fun S3 H locs hf hM => ?_)
    refine z_eqCS (c2 := kc - (C - mc)) (t2 := kt - (T - ms)) (by omega) (by omega) ?_
    replace hCT : C - mc ≤ kc ∧ T - ms ≤ kt := by omega
    generalize C - mc = C4 at hf hCT ⊢
    generalize T - ms = T5 at hf hCT ⊢
    clear ho hcm
    refine lv_aload_n hx hb dX9_putSigns_149 rfl (lv_at hl 3 rfl) ?_
    refine lv_iload_n hx hb dX9_putSigns_150 rfl (lv_at hl 2 rfl) ?_
    refine lv_bipush (v := (12 : Int32)) hx hb dX9_putSigns_151 (by decide) ?_
    refine lv_ishr hx hb dX9_putSigns_153 ?_
    obtain ⟨v6, ev, hf⟩ := m_bndPE hf
    refine m_top ev ?_
    clear ev
    obtain ⟨o7, ho, hf⟩ := m_calPE hf
    refine z_gcallSNi X hM (c_X11_letterOf ho) gX9_putSigns_X11_letterOf_n41 nn_X9_putSigns_41.1.1 nn_X9_putSigns_41.1.2 nn_X9_putSigns_41.2 rfl ⟨rfl, rfl⟩ hd_X11_letterOf ⟨Nat.le_of_ble_eq_true rfl, Nat.le_of_ble_eq_true rfl⟩ rfl hl.1 rfl ⟨Nat.sub_le _ _, Nat.sub_le _ _⟩ (Nat.le_of_ble_eq_true rfl) dX9_putSigns_154 (fun H locs hM => ?_)
    clear ho
    obtain ⟨ca, hf⟩ := m_chkPE hf
    obtain ⟨mc, ms, hcm, ho⟩ := m_galE hf
    refine z_wcallVv (k := 6) (C := RX6) (T := TX6) (N := 2) (fl := zf_6) X hM rfl zc_6 ca (c_X6_put ho) gX9_putSigns_X6_put rfl ⟨rfl, rfl⟩ ⟨by show kc - (C4) + mc ≤ kc; omega, by show kt - (T5) + ms ≤ kt; omega⟩ hd_X6_put ⟨Nat.le_of_ble_eq_true rfl, Nat.le_of_ble_eq_true rfl⟩ rfl hl.1 rfl (Nat.le_of_ble_eq_true rfl) dX9_putSigns_157 (fun S10 H locs hf hM => ?_)
    refine z_eqCS (c2 := kc - (C4 - mc)) (t2 := kt - (T5 - ms)) (by omega) (by omega) ?_
    replace hCT : C4 - mc ≤ kc ∧ T5 - ms ≤ kt := by omega
    generalize C4 - mc = C11 at hf hCT ⊢
    generalize T5 - ms = T12 at hf hCT ⊢
    clear ho hcm
    exact w_X9_putSigns_160 (x0 := x0) (x1 := x1) (x2 := x2) (x3 := x3) X hret hf hCT hM (lv_sub hl [0, 1, 2, 3] rfl)
def g_X9_putSigns_118 (Pw : Int32 → ZS → Prop) (x0 : Nat) (x1 : Nat) (x2 : Int32) (x3 : Nat) (x5 : Int32) (S : ZS) (C T : Nat) : Prop :=
  m_calP (f_X11_fileLetter x5 S) (fun o1 =>
  m_chkP (x3 ∈ zL o1.2 ∧ zK o1.2 x3 = 6) (
  m_gal (C) (T) (fun mc ms Pw => g_X6_put x3 o1.1 o1.2 mc ms Pw) (fun r3 S4 C5 T6 =>
  m_calP (f_X11_rankDigit x5 S4) (fun o7 =>
  m_chkP (x3 ∈ zL o7.2 ∧ zK o7.2 x3 = 6) (
  m_gal (C5) (T6) (fun mc ms Pw => g_X6_put x3 o7.1 o7.2 mc ms Pw) (fun r9 S10 C11 T12 =>
  g_X9_putSigns_136 Pw x0 x1 x2 x3 S10 (C11) (T12)))))))

set_option maxRecDepth 100000 in
set_option maxHeartbeats 4000000 in
theorem w_X9_putSigns_118 {p : Program} {l : Launch} {e : Env} {s : State} {m : MethodId} {args : Array Value} {below : List Frame} {meth : Method} {c : Code} {Q : State → Prop} {D : va_G} {y : Nat → ClassId} {A0 : Nat → Prop} {kc kt : Nat} {Pw : Int32 → ZS → Prop} (X : CallFix p m c cX9_putSigns 7 s args wsX9_putSigns RX9) (hret : zQv p l e ({ frames := 5, cells := kc, slots := kt, locals := 134 } : Room) s m args below meth c Q cX9_putSigns D y A0 Pw) {x0 : Nat} {x1 : Nat} {x2 : Int32} {x3 : Nat} {x5 : Int32} {S : ZS} {C T : Nat} {H : Heap} {locs : List Loc} {ls : Array Slot} (hf : g_X9_putSigns_118 Pw x0 x1 x2 x3 x5 S C T) (hCT : C ≤ kc ∧ T ≤ kt) (hM : zH D y A0 s H locs S) (hl : lv_has ls 7 [(0, .ref x0), (1, .ref x1), (2, .int x2), (3, .ref x3), (5, .int x5)]) : W p l e ({ frames := 5, cells := kc, slots := kt, locals := 134 } : Room) s m args below meth c H locs (kc - C) (kt - T) Q (F0 m 118 ls []) := by
  obtain ⟨hx, hb, hml, hown, hts⟩ := id X
  unfold g_X9_putSigns_118 at hf
  refine lv_aload_n hx hb dX9_putSigns_118 rfl (lv_at hl 3 rfl) ?_
  refine lv_iload hx hb dX9_putSigns_119 (lv_at hl 4 rfl) ?_
  obtain ⟨o1, ho, hf⟩ := m_calPE hf
  refine z_gcallSNi X hM (c_X11_fileLetter ho) gX9_putSigns_X11_fileLetter_n53 nn_X9_putSigns_53.1.1 nn_X9_putSigns_53.1.2 nn_X9_putSigns_53.2 rfl ⟨rfl, rfl⟩ hd_X11_fileLetter ⟨Nat.le_of_ble_eq_true rfl, Nat.le_of_ble_eq_true rfl⟩ rfl hl.1 rfl ⟨Nat.sub_le _ _, Nat.sub_le _ _⟩ (Nat.le_of_ble_eq_true rfl) dX9_putSigns_121 (fun H locs hM => ?_)
  clear ho
  obtain ⟨ca, hf⟩ := m_chkPE hf
  obtain ⟨mc, ms, hcm, ho⟩ := m_galE hf
  refine z_wcallVv (k := 6) (C := RX6) (T := TX6) (N := 2) (fl := zf_6) X hM rfl zc_6 ca (c_X6_put ho) gX9_putSigns_X6_put rfl ⟨rfl, rfl⟩ ⟨by show kc - (C) + mc ≤ kc; omega, by show kt - (T) + ms ≤ kt; omega⟩ hd_X6_put ⟨Nat.le_of_ble_eq_true rfl, Nat.le_of_ble_eq_true rfl⟩ rfl hl.1 rfl (Nat.le_of_ble_eq_true rfl) dX9_putSigns_124 (fun S4 H locs hf hM => ?_)
  refine z_eqCS (c2 := kc - (C - mc)) (t2 := kt - (T - ms)) (by omega) (by omega) ?_
  replace hCT : C - mc ≤ kc ∧ T - ms ≤ kt := by omega
  generalize C - mc = C5 at hf hCT ⊢
  generalize T - ms = T6 at hf hCT ⊢
  clear ho hcm
  refine lv_aload_n hx hb dX9_putSigns_127 rfl (lv_at hl 3 rfl) ?_
  refine lv_iload hx hb dX9_putSigns_128 (lv_at hl 4 rfl) ?_
  obtain ⟨o7, ho, hf⟩ := m_calPE hf
  refine z_gcallSNi X hM (c_X11_rankDigit ho) gX9_putSigns_X11_rankDigit_n56 nn_X9_putSigns_56.1.1 nn_X9_putSigns_56.1.2 nn_X9_putSigns_56.2 rfl ⟨rfl, rfl⟩ hd_X11_rankDigit ⟨Nat.le_of_ble_eq_true rfl, Nat.le_of_ble_eq_true rfl⟩ rfl hl.1 rfl ⟨Nat.sub_le _ _, Nat.sub_le _ _⟩ (Nat.le_of_ble_eq_true rfl) dX9_putSigns_130 (fun H locs hM => ?_)
  clear ho
  obtain ⟨ca, hf⟩ := m_chkPE hf
  obtain ⟨mc, ms, hcm, ho⟩ := m_galE hf
  refine z_wcallVv (k := 6) (C := RX6) (T := TX6) (N := 2) (fl := zf_6) X hM rfl zc_6 ca (c_X6_put ho) gX9_putSigns_X6_put rfl ⟨rfl, rfl⟩ ⟨by show kc - (C5) + mc ≤ kc; omega, by show kt - (T6) + ms ≤ kt; omega⟩ hd_X6_put ⟨Nat.le_of_ble_eq_true rfl, Nat.le_of_ble_eq_true rfl⟩ rfl hl.1 rfl (Nat.le_of_ble_eq_true rfl) dX9_putSigns_133 (fun S10 H locs hf hM => ?_)
  refine z_eqCS (c2 := kc - (C5 - mc)) (t2 := kt - (T6 - ms)) (by omega) (by omega) ?_
  replace hCT : C5 - mc ≤ kc ∧ T6 - ms ≤ kt := by omega
  generalize C5 - mc = C11 at hf hCT ⊢
  generalize T6 - ms = T12 at hf hCT ⊢
  clear ho hcm
  exact w_X9_putSigns_136 (x0 := x0) (x1 := x1) (x2 := x2) (x3 := x3) X hret hf hCT hM (lv_sub hl [0, 1, 2, 3] rfl)
def g_X9_putSigns_107 (Pw : Int32 → ZS → Prop) (x0 : Nat) (x1 : Nat) (x2 : Int32) (x3 : Nat) (x5 : Int32) (x6 : Int32) (S : ZS) (C T : Nat) : Prop :=
  m_ifP (x6 = 0) (
  g_X9_putSigns_118 Pw x0 x1 x2 x3 x5 S (C) (T)
  ) (
  m_chkP (x3 ∈ zL S ∧ zK S x3 = 6) (
  m_gal (C) (T) (fun mc ms Pw => g_X6_put x3 (120 : Int32) S mc ms Pw) (fun r2 S3 C4 T5 =>
  g_X9_putSigns_118 Pw x0 x1 x2 x3 x5 S3 (C4) (T5)))
  )

set_option maxRecDepth 100000 in
set_option maxHeartbeats 4000000 in
theorem w_X9_putSigns_107 {p : Program} {l : Launch} {e : Env} {s : State} {m : MethodId} {args : Array Value} {below : List Frame} {meth : Method} {c : Code} {Q : State → Prop} {D : va_G} {y : Nat → ClassId} {A0 : Nat → Prop} {kc kt : Nat} {Pw : Int32 → ZS → Prop} (X : CallFix p m c cX9_putSigns 7 s args wsX9_putSigns RX9) (hret : zQv p l e ({ frames := 5, cells := kc, slots := kt, locals := 134 } : Room) s m args below meth c Q cX9_putSigns D y A0 Pw) {x0 : Nat} {x1 : Nat} {x2 : Int32} {x3 : Nat} {x5 : Int32} {x6 : Int32} {S : ZS} {C T : Nat} {H : Heap} {locs : List Loc} {ls : Array Slot} (hf : g_X9_putSigns_107 Pw x0 x1 x2 x3 x5 x6 S C T) (hCT : C ≤ kc ∧ T ≤ kt) (hM : zH D y A0 s H locs S) (hl : lv_has ls 7 [(0, .ref x0), (1, .ref x1), (2, .int x2), (3, .ref x3), (5, .int x5), (6, .int x6)]) : W p l e ({ frames := 5, cells := kc, slots := kt, locals := 134 } : Room) s m args below meth c H locs (kc - C) (kt - T) Q (F0 m 107 ls []) := by
  obtain ⟨hx, hb, hml, hown, hts⟩ := id X
  unfold g_X9_putSigns_107 at hf
  refine lv_iload hx hb dX9_putSigns_107 (lv_at hl 5 rfl) ?_
  refine lv_if_eq (tgt := 118) hx hb dX9_putSigns_109 (by decide) (fun cc1 => ?_) (fun cc1 => ?_)
  · replace hf := m_ifPT hf cc1
    exact w_X9_putSigns_118 (x0 := x0) (x1 := x1) (x2 := x2) (x3 := x3) (x5 := x5) X hret hf hCT hM (lv_sub hl [0, 1, 2, 3, 4] rfl)
  · replace hf := m_ifPF hf cc1
    refine lv_aload_n hx hb dX9_putSigns_112 rfl (lv_at hl 3 rfl) ?_
    refine lv_bipush (v := (120 : Int32)) hx hb dX9_putSigns_113 (by decide) ?_
    obtain ⟨ca, hf⟩ := m_chkPE hf
    obtain ⟨mc, ms, hcm, ho⟩ := m_galE hf
    refine z_wcallVv (k := 6) (C := RX6) (T := TX6) (N := 2) (fl := zf_6) X hM rfl zc_6 ca (c_X6_put ho) gX9_putSigns_X6_put rfl ⟨rfl, rfl⟩ ⟨by show kc - (C) + mc ≤ kc; omega, by show kt - (T) + ms ≤ kt; omega⟩ hd_X6_put ⟨Nat.le_of_ble_eq_true rfl, Nat.le_of_ble_eq_true rfl⟩ rfl hl.1 rfl (Nat.le_of_ble_eq_true rfl) dX9_putSigns_115 (fun S3 H locs hf hM => ?_)
    refine z_eqCS (c2 := kc - (C - mc)) (t2 := kt - (T - ms)) (by omega) (by omega) ?_
    replace hCT : C - mc ≤ kc ∧ T - ms ≤ kt := by omega
    generalize C - mc = C4 at hf hCT ⊢
    generalize T - ms = T5 at hf hCT ⊢
    clear ho hcm
    exact w_X9_putSigns_118 (x0 := x0) (x1 := x1) (x2 := x2) (x3 := x3) (x5 := x5) X hret hf hCT hM (lv_sub hl [0, 1, 2, 3, 4] rfl)
def g_X9_putSigns_41 (Pw : Int32 → ZS → Prop) (x0 : Nat) (x1 : Nat) (x2 : Int32) (x3 : Nat) (t0 : Nat) (t1 : Nat) (S : ZS) (C T : Nat) : Prop :=
  m_chkP (t1 ∈ zL S ∧ zK S t1 = 6) (
  m_gal (C) (T) (fun mc ms Pw => g_X6_putText t1 t0 S mc ms Pw) (fun r2 S3 C4 T5 =>
  g_X9_putSigns_136 Pw x0 x1 x2 x3 S3 (C4) (T5)))

set_option maxRecDepth 100000 in
set_option maxHeartbeats 4000000 in
theorem w_X9_putSigns_41 {p : Program} {l : Launch} {e : Env} {s : State} {m : MethodId} {args : Array Value} {below : List Frame} {meth : Method} {c : Code} {Q : State → Prop} {D : va_G} {y : Nat → ClassId} {A0 : Nat → Prop} {kc kt : Nat} {Pw : Int32 → ZS → Prop} (X : CallFix p m c cX9_putSigns 7 s args wsX9_putSigns RX9) (hret : zQv p l e ({ frames := 5, cells := kc, slots := kt, locals := 134 } : Room) s m args below meth c Q cX9_putSigns D y A0 Pw) {x0 : Nat} {x1 : Nat} {x2 : Int32} {x3 : Nat} {t0 : Nat} {t1 : Nat} {S : ZS} {C T : Nat} {H : Heap} {locs : List Loc} {ls : Array Slot} (hf : g_X9_putSigns_41 Pw x0 x1 x2 x3 t0 t1 S C T) (hCT : C ≤ kc ∧ T ≤ kt) (hM : zH D y A0 s H locs S) (hl : lv_has ls 7 [(0, .ref x0), (1, .ref x1), (2, .int x2), (3, .ref x3)]) : W p l e ({ frames := 5, cells := kc, slots := kt, locals := 134 } : Room) s m args below meth c H locs (kc - C) (kt - T) Q (F0 m 41 ls [.ref (y (100 + t0)), .ref t1]) := by
  obtain ⟨hx, hb, hml, hown, hts⟩ := id X
  unfold g_X9_putSigns_41 at hf
  obtain ⟨ca, hf⟩ := m_chkPE hf
  obtain ⟨mc, ms, hcm, ho⟩ := m_galE hf
  refine z_wcallVv (k := 6) (C := RX6) (T := TX6) (N := 2) (fl := zf_6) X hM rfl zc_6 ca (c_X6_putText ho) gX9_putSigns_X6_putText rfl ⟨rfl, rfl⟩ ⟨by show kc - (C) + mc ≤ kc; omega, by show kt - (T) + ms ≤ kt; omega⟩ hd_X6_putText ⟨Nat.le_of_ble_eq_true rfl, Nat.le_of_ble_eq_true rfl⟩ rfl hl.1 rfl (Nat.le_of_ble_eq_true rfl) dX9_putSigns_41 (fun S3 H locs hf hM => ?_)
  refine z_eqCS (c2 := kc - (C - mc)) (t2 := kt - (T - ms)) (by omega) (by omega) ?_
  replace hCT : C - mc ≤ kc ∧ T - ms ≤ kt := by omega
  generalize C - mc = C4 at hf hCT ⊢
  generalize T - ms = T5 at hf hCT ⊢
  clear ho hcm
  refine lv_goto (tgt := 136) hx hb dX9_putSigns_44 (by decide) ?_
  exact w_X9_putSigns_136 (x0 := x0) (x1 := x1) (x2 := x2) (x3 := x3) X hret hf hCT hM (lv_sub hl [0, 1, 2, 3] rfl)
def g_X9_putSigns_0 (Pw : Int32 → ZS → Prop) (x0 : Nat) (x1 : Nat) (x2 : Int32) (x3 : Nat) (S : ZS) (C T : Nat) : Prop :=
  m_bndP (x2 &&& (63 : Int32)) (fun v1 =>
  m_bndP (x2 >>> ((6 : Int32) &&& 31)) (fun v2 =>
  m_bndP (v2 &&& (63 : Int32)) (fun v3 =>
  m_chkP (x1 ∈ zL S ∧ zK S x1 = 0) (
  m_calP (f_X0_castles x1 v1 v3 S) (fun o4 =>
  m_ifP (o4.1 = 0) (
  m_chkP (x1 ∈ zL o4.2 ∧ zK o4.2 x1 = 0) (
  m_calP (f_X0_takes x1 v1 v3 o4.2) (fun o5 =>
  m_chkP (x1 ∈ zL o5.2 ∧ zK o5.2 x1 = 0) (
  m_calP (f_X0_kindAt x1 v1 o5.2) (fun o6 =>
  m_ifP (o6.1 = (1 : Int32)) (
  m_ifP (o5.1 = 0) (
  g_X9_putSigns_107 Pw x0 x1 x2 x3 v3 o5.1 o6.2 (C) (T)
  ) (
  m_calP (f_X11_fileLetter v1 o6.2) (fun o7 =>
  m_chkP (x3 ∈ zL o7.2 ∧ zK o7.2 x3 = 6) (
  m_gal (C) (T) (fun mc ms Pw => g_X6_put x3 o7.1 o7.2 mc ms Pw) (fun r9 S10 C11 T12 =>
  g_X9_putSigns_107 Pw x0 x1 x2 x3 v3 o5.1 S10 (C11) (T12))))
  )
  ) (
  m_chkP (x1 ∈ zL o6.2 ∧ zK o6.2 x1 = 0) (
  m_calP (f_X0_kindAt x1 v1 o6.2) (fun o13 =>
  m_calP (f_X11_letterOf o13.1 o13.2) (fun o14 =>
  m_chkP (x3 ∈ zL o14.2 ∧ zK o14.2 x3 = 6) (
  m_gal (C) (T) (fun mc ms Pw => g_X6_put x3 o14.1 o14.2 mc ms Pw) (fun r16 S17 C18 T19 =>
  m_chkP (x0 ∈ zL S17 ∧ zK S17 x0 = 9) (
  m_gal (C18) (T19) (fun mc ms Pw => g_X9_putApart x0 x1 v1 v3 x3 S17 mc ms Pw) (fun r21 S22 C23 T24 =>
  g_X9_putSigns_107 Pw x0 x1 x2 x3 v3 o5.1 S22 (C23) (T24))))))))
  )))))
  ) (
  m_ifP (v3 ≤ v1) (
  g_X9_putSigns_41 Pw x0 x1 x2 x3 8 x3 o4.2 (C) (T)
  ) (
  g_X9_putSigns_41 Pw x0 x1 x2 x3 7 x3 o4.2 (C) (T)
  )
  ))))))

set_option maxRecDepth 100000 in
set_option maxHeartbeats 4000000 in
theorem w_X9_putSigns_0 {p : Program} {l : Launch} {e : Env} {s : State} {m : MethodId} {args : Array Value} {below : List Frame} {meth : Method} {c : Code} {Q : State → Prop} {D : va_G} {y : Nat → ClassId} {A0 : Nat → Prop} {kc kt : Nat} {Pw : Int32 → ZS → Prop} (X : CallFix p m c cX9_putSigns 7 s args wsX9_putSigns RX9) (hret : zQv p l e ({ frames := 5, cells := kc, slots := kt, locals := 134 } : Room) s m args below meth c Q cX9_putSigns D y A0 Pw) {x0 : Nat} {x1 : Nat} {x2 : Int32} {x3 : Nat} {S : ZS} {C T : Nat} {H : Heap} {locs : List Loc} {ls : Array Slot} (hf : g_X9_putSigns_0 Pw x0 x1 x2 x3 S C T) (hCT : C ≤ kc ∧ T ≤ kt) (hM : zH D y A0 s H locs S) (hl : lv_has ls 7 [(0, .ref x0), (1, .ref x1), (2, .int x2), (3, .ref x3)]) : W p l e ({ frames := 5, cells := kc, slots := kt, locals := 134 } : Room) s m args below meth c H locs (kc - C) (kt - T) Q (F0 m 0 ls []) := by
  obtain ⟨hx, hb, hml, hown, hts⟩ := id X
  unfold g_X9_putSigns_0 at hf
  refine lv_iload_n hx hb dX9_putSigns_0 rfl (lv_at hl 2 rfl) ?_
  refine lv_bipush (v := (63 : Int32)) hx hb dX9_putSigns_1 (by decide) ?_
  refine lv_iand hx hb dX9_putSigns_3 ?_
  obtain ⟨v1, ev, hf⟩ := m_bndPE hf
  refine m_top ev ?_
  clear ev
  refine lv_istore (lv' := [(4, .int v1), (0, .ref x0), (1, .ref x1), (2, .int x2), (3, .ref x3)]) hx hb dX9_putSigns_4 hl (by decide) rfl (fun ls hl => ?_)
  refine lv_iload_n hx hb dX9_putSigns_6 rfl (lv_at hl 3 rfl) ?_
  refine lv_bipush (v := (6 : Int32)) hx hb dX9_putSigns_7 (by decide) ?_
  refine lv_ishr hx hb dX9_putSigns_9 ?_
  obtain ⟨v2, ev, hf⟩ := m_bndPE hf
  refine m_top ev ?_
  clear ev
  refine lv_bipush (v := (63 : Int32)) hx hb dX9_putSigns_10 (by decide) ?_
  refine lv_iand hx hb dX9_putSigns_12 ?_
  obtain ⟨v3, ev, hf⟩ := m_bndPE hf
  refine m_top ev ?_
  clear ev
  refine lv_istore (lv' := [(5, .int v3), (4, .int v1), (0, .ref x0), (1, .ref x1), (2, .int x2), (3, .ref x3)]) hx hb dX9_putSigns_13 hl (by decide) rfl (fun ls hl => ?_)
  refine lv_aload_n hx hb dX9_putSigns_15 rfl (lv_at hl 3 rfl) ?_
  refine lv_iload hx hb dX9_putSigns_16 (lv_at hl 1 rfl) ?_
  refine lv_iload hx hb dX9_putSigns_18 (lv_at hl 0 rfl) ?_
  obtain ⟨ca, hf⟩ := m_chkPE hf
  obtain ⟨o4, ho, hf⟩ := m_calPE hf
  refine z_gcallVi (k := 0) (C := RX0) (T := TX0) (N := 7) (fl := zf_0) X hM rfl zc_0 ca (c_X0_castles ho) gX9_putSigns_X0_castles rfl ⟨rfl, rfl⟩ hd_X0_castles ⟨Nat.le_of_ble_eq_true rfl, Nat.le_of_ble_eq_true rfl⟩ rfl hl.1 rfl ⟨Nat.sub_le _ _, Nat.sub_le _ _⟩ (Nat.le_of_ble_eq_true rfl) dX9_putSigns_20 (fun H locs hM => ?_)
  clear ho
  refine lv_if_eq (tgt := 47) hx hb dX9_putSigns_23 (by decide) (fun cc1 => ?_) (fun cc1 => ?_)
  · replace hf := m_ifPT hf cc1
    refine lv_aload_n hx hb dX9_putSigns_47 rfl (lv_at hl 3 rfl) ?_
    refine lv_iload hx hb dX9_putSigns_48 (lv_at hl 1 rfl) ?_
    refine lv_iload hx hb dX9_putSigns_50 (lv_at hl 0 rfl) ?_
    obtain ⟨ca, hf⟩ := m_chkPE hf
    obtain ⟨o5, ho, hf⟩ := m_calPE hf
    refine z_gcallVi (k := 0) (C := RX0) (T := TX0) (N := 7) (fl := zf_0) X hM rfl zc_0 ca (c_X0_takes ho) gX9_putSigns_X0_takes rfl ⟨rfl, rfl⟩ hd_X0_takes ⟨Nat.le_of_ble_eq_true rfl, Nat.le_of_ble_eq_true rfl⟩ rfl hl.1 rfl ⟨Nat.sub_le _ _, Nat.sub_le _ _⟩ (Nat.le_of_ble_eq_true rfl) dX9_putSigns_52 (fun H locs hM => ?_)
    clear ho
    refine lv_istore (lv' := [(6, .int o5.1), (5, .int v3), (4, .int v1), (0, .ref x0), (1, .ref x1), (2, .int x2), (3, .ref x3)]) hx hb dX9_putSigns_55 hl (by decide) rfl (fun ls hl => ?_)
    refine lv_aload_n hx hb dX9_putSigns_57 rfl (lv_at hl 4 rfl) ?_
    refine lv_iload hx hb dX9_putSigns_58 (lv_at hl 2 rfl) ?_
    obtain ⟨ca, hf⟩ := m_chkPE hf
    obtain ⟨o6, ho, hf⟩ := m_calPE hf
    refine z_gcallVi (k := 0) (C := RX0) (T := TX0) (N := 7) (fl := zf_0) X hM rfl zc_0 ca (c_X0_kindAt ho) gX9_putSigns_X0_kindAt rfl ⟨rfl, rfl⟩ hd_X0_kindAt ⟨Nat.le_of_ble_eq_true rfl, Nat.le_of_ble_eq_true rfl⟩ rfl hl.1 rfl ⟨Nat.sub_le _ _, Nat.sub_le _ _⟩ (Nat.le_of_ble_eq_true rfl) dX9_putSigns_60 (fun H locs hM => ?_)
    clear ho
    refine lv_iconst (v := (1 : Int32)) hx hb dX9_putSigns_63 (by decide) ?_
    refine lv_icmp_eq (tgt := 93) hx hb dX9_putSigns_64 (by decide) (fun cc1 => ?_) (fun cc1 => ?_)
    · replace hf := m_ifPT hf cc1
      refine lv_iload hx hb dX9_putSigns_93 (lv_at hl 0 rfl) ?_
      refine lv_if_eq (tgt := 107) hx hb dX9_putSigns_95 (by decide) (fun cc1 => ?_) (fun cc1 => ?_)
      · replace hf := m_ifPT hf cc1
        exact w_X9_putSigns_107 (x0 := x0) (x1 := x1) (x2 := x2) (x3 := x3) (x5 := v3) (x6 := o5.1) X hret hf hCT hM (lv_sub hl [3, 4, 5, 6, 1, 0] rfl)
      · replace hf := m_ifPF hf cc1
        refine lv_aload_n hx hb dX9_putSigns_98 rfl (lv_at hl 6 rfl) ?_
        refine lv_iload hx hb dX9_putSigns_99 (lv_at hl 2 rfl) ?_
        obtain ⟨o7, ho, hf⟩ := m_calPE hf
        refine z_gcallSNi X hM (c_X11_fileLetter ho) gX9_putSigns_X11_fileLetter_n53 nn_X9_putSigns_53.1.1 nn_X9_putSigns_53.1.2 nn_X9_putSigns_53.2 rfl ⟨rfl, rfl⟩ hd_X11_fileLetter ⟨Nat.le_of_ble_eq_true rfl, Nat.le_of_ble_eq_true rfl⟩ rfl hl.1 rfl ⟨Nat.sub_le _ _, Nat.sub_le _ _⟩ (Nat.le_of_ble_eq_true rfl) dX9_putSigns_101 (fun H locs hM => ?_)
        clear ho
        obtain ⟨ca, hf⟩ := m_chkPE hf
        obtain ⟨mc, ms, hcm, ho⟩ := m_galE hf
        refine z_wcallVv (k := 6) (C := RX6) (T := TX6) (N := 2) (fl := zf_6) X hM rfl zc_6 ca (c_X6_put ho) gX9_putSigns_X6_put rfl ⟨rfl, rfl⟩ ⟨by show kc - (C) + mc ≤ kc; omega, by show kt - (T) + ms ≤ kt; omega⟩ hd_X6_put ⟨Nat.le_of_ble_eq_true rfl, Nat.le_of_ble_eq_true rfl⟩ rfl hl.1 rfl (Nat.le_of_ble_eq_true rfl) dX9_putSigns_104 (fun S10 H locs hf hM => ?_)
        refine z_eqCS (c2 := kc - (C - mc)) (t2 := kt - (T - ms)) (by omega) (by omega) ?_
        replace hCT : C - mc ≤ kc ∧ T - ms ≤ kt := by omega
        generalize C - mc = C11 at hf hCT ⊢
        generalize T - ms = T12 at hf hCT ⊢
        clear ho hcm
        exact w_X9_putSigns_107 (x0 := x0) (x1 := x1) (x2 := x2) (x3 := x3) (x5 := v3) (x6 := o5.1) X hret hf hCT hM (lv_sub hl [3, 4, 5, 6, 1, 0] rfl)
    · replace hf := m_ifPF hf cc1
      refine lv_aload_n hx hb dX9_putSigns_67 rfl (lv_at hl 6 rfl) ?_
      refine lv_aload_n hx hb dX9_putSigns_68 rfl (lv_at hl 4 rfl) ?_
      refine lv_iload hx hb dX9_putSigns_69 (lv_at hl 2 rfl) ?_
      obtain ⟨ca, hf⟩ := m_chkPE hf
      obtain ⟨o13, ho, hf⟩ := m_calPE hf
      refine z_gcallVi (k := 0) (C := RX0) (T := TX0) (N := 7) (fl := zf_0) X hM rfl zc_0 ca (c_X0_kindAt ho) gX9_putSigns_X0_kindAt rfl ⟨rfl, rfl⟩ hd_X0_kindAt ⟨Nat.le_of_ble_eq_true rfl, Nat.le_of_ble_eq_true rfl⟩ rfl hl.1 rfl ⟨Nat.sub_le _ _, Nat.sub_le _ _⟩ (Nat.le_of_ble_eq_true rfl) dX9_putSigns_71 (fun H locs hM => ?_)
      clear ho
      obtain ⟨o14, ho, hf⟩ := m_calPE hf
      refine z_gcallSNi X hM (c_X11_letterOf ho) gX9_putSigns_X11_letterOf_n41 nn_X9_putSigns_41.1.1 nn_X9_putSigns_41.1.2 nn_X9_putSigns_41.2 rfl ⟨rfl, rfl⟩ hd_X11_letterOf ⟨Nat.le_of_ble_eq_true rfl, Nat.le_of_ble_eq_true rfl⟩ rfl hl.1 rfl ⟨Nat.sub_le _ _, Nat.sub_le _ _⟩ (Nat.le_of_ble_eq_true rfl) dX9_putSigns_74 (fun H locs hM => ?_)
      clear ho
      obtain ⟨ca, hf⟩ := m_chkPE hf
      obtain ⟨mc, ms, hcm, ho⟩ := m_galE hf
      refine z_wcallVv (k := 6) (C := RX6) (T := TX6) (N := 2) (fl := zf_6) X hM rfl zc_6 ca (c_X6_put ho) gX9_putSigns_X6_put rfl ⟨rfl, rfl⟩ ⟨by show kc - (C) + mc ≤ kc; omega, by show kt - (T) + ms ≤ kt; omega⟩ hd_X6_put ⟨Nat.le_of_ble_eq_true rfl, Nat.le_of_ble_eq_true rfl⟩ rfl hl.1 rfl (Nat.le_of_ble_eq_true rfl) dX9_putSigns_77 (fun S17 H locs hf hM => ?_)
      refine z_eqCS (c2 := kc - (C - mc)) (t2 := kt - (T - ms)) (by omega) (by omega) ?_
      replace hCT : C - mc ≤ kc ∧ T - ms ≤ kt := by omega
      generalize C - mc = C18 at hf hCT ⊢
      generalize T - ms = T19 at hf hCT ⊢
      clear ho hcm
      refine lv_aload_n hx hb dX9_putSigns_80 rfl (lv_at hl 3 rfl) ?_
      refine lv_aload_n hx hb dX9_putSigns_81 rfl (lv_at hl 4 rfl) ?_
      refine lv_iload hx hb dX9_putSigns_82 (lv_at hl 2 rfl) ?_
      refine lv_iload hx hb dX9_putSigns_84 (lv_at hl 1 rfl) ?_
      refine lv_aload_n hx hb dX9_putSigns_86 rfl (lv_at hl 6 rfl) ?_
      obtain ⟨ca, hf⟩ := m_chkPE hf
      obtain ⟨mc, ms, hcm, ho⟩ := m_galE hf
      refine z_wcallVv (k := 9) (C := RX9) (T := TX9) (N := 1) (fl := zf_9) X hM rfl zc_9 ca (c_X9_putApart ho) gX9_putSigns_X9_putApart rfl ⟨rfl, rfl⟩ ⟨by show kc - (C18) + mc ≤ kc; omega, by show kt - (T19) + ms ≤ kt; omega⟩ hd_X9_putApart ⟨Nat.le_of_ble_eq_true rfl, Nat.le_of_ble_eq_true rfl⟩ rfl hl.1 rfl (Nat.le_of_ble_eq_true rfl) dX9_putSigns_87 (fun S22 H locs hf hM => ?_)
      refine z_eqCS (c2 := kc - (C18 - mc)) (t2 := kt - (T19 - ms)) (by omega) (by omega) ?_
      replace hCT : C18 - mc ≤ kc ∧ T19 - ms ≤ kt := by omega
      generalize C18 - mc = C23 at hf hCT ⊢
      generalize T19 - ms = T24 at hf hCT ⊢
      clear ho hcm
      refine lv_goto (tgt := 107) hx hb dX9_putSigns_90 (by decide) ?_
      exact w_X9_putSigns_107 (x0 := x0) (x1 := x1) (x2 := x2) (x3 := x3) (x5 := v3) (x6 := o5.1) X hret hf hCT hM (lv_sub hl [3, 4, 5, 6, 1, 0] rfl)
  · replace hf := m_ifPF hf cc1
    refine lv_aload_n hx hb dX9_putSigns_26 rfl (lv_at hl 5 rfl) ?_
    refine lv_iload hx hb dX9_putSigns_27 (lv_at hl 0 rfl) ?_
    refine lv_iload hx hb dX9_putSigns_29 (lv_at hl 1 rfl) ?_
    refine lv_icmp_le (tgt := 39) hx hb dX9_putSigns_31 (by decide) (fun cc1 => ?_) (fun cc1 => ?_)
    · replace hf := m_ifPT hf cc1
      refine z_ldcS X hM sr_X9_putSigns_26 dX9_putSigns_39 ?_
      exact w_X9_putSigns_41 (x0 := x0) (x1 := x1) (x2 := x2) (x3 := x3) (t0 := 8) (t1 := x3) X hret hf hCT hM (lv_sub hl [2, 3, 4, 5] rfl)
    · replace hf := m_ifPF hf cc1
      refine z_ldcS X hM sr_X9_putSigns_24 dX9_putSigns_34 ?_
      refine lv_goto (tgt := 41) hx hb dX9_putSigns_36 (by decide) ?_
      exact w_X9_putSigns_41 (x0 := x0) (x1 := x1) (x2 := x2) (x3 := x3) (t0 := 7) (t1 := x3) X hret hf hCT hM (lv_sub hl [2, 3, 4, 5] rfl)
def g_X9_putSigns (x0 : Nat) (x1 : Nat) (x2 : Int32) (x3 : Nat) (S : ZS) (mc ms : Nat) (Pw : Int32 → ZS → Prop) : Prop := g_X9_putSigns_0 Pw x0 x1 x2 x3 S mc ms
theorem c_X9_putSigns {l : Launch} {D : va_G} {y : Nat → ClassId} {x0 : Nat} {x1 : Nat} {x2 : Int32} {x3 : Nat} {S : ZS} {kc kt : Nat} {Pw : Int32 → ZS → Prop} (hf : g_X9_putSigns x0 x1 x2 x3 S kc kt Pw) : zWv l yX9_putSigns wsX9_putSigns ({ frames := 5, cells := kc, slots := kt, locals := 134 } : Room) [.ref x0, .ref x1, .int x2, .ref x3] D y S kc kt Pw :=
  z_wentV (own := RX9) (cc := cX9_putSigns) (maxL := 7) (by decide) rfl rfl (Nat.le_of_ble_eq_true rfl) ⟨rfl, rfl⟩ (fun p e s m args below meth c A0 Q H locs ls X hret hM hl => w_X9_putSigns_0 X hret hf ⟨Nat.le_refl _, Nat.le_refl _⟩ hM (lv_sub hl [0, 1, 2, 3] rfl))
theorem hd_X9_putSigns : yX9_putSigns.cls = RX9 ∧ yX9_putSigns.cls ≠ "java/lang/invoke/MethodHandle" ∧ yX9_putSigns.cls ≠ "java/lang/invoke/VarHandle" ∧ (parseMethodDescriptor yX9_putSigns.desc).map (fun d => d.parameters.length) = some 3 := by decide +kernel
theorem fl_X4_markAt_4_5 : Cond.fieldLink RX4 27 "MoveTexts$Node" "marks" "I" ∈ wsX4_markAt := by decide +kernel
theorem hw_X4_markAt_4 : ∀ w ∈ wsX40, w ∈ wsX4_markAt := by decide +kernel
def f_X4_markAt_0 (x0 : Nat) (x1 : Int32) (S : ZS) : Option (Int32 × ZS) :=
  m_chk (x0 ∈ zL S ∧ zK S x0 = 4) (
  m_bnd ((8 : Int32) * x1) (fun v1 =>
  m_bnd ((((zI S 5 x0)).toUInt32 >>> ((v1).toUInt32 &&& Int32.toUInt32 31)).toInt32) (fun v2 =>
  m_bnd (v2 &&& (255 : Int32)) (fun v3 =>
  some (v3, S)))))

set_option maxRecDepth 100000 in
set_option maxHeartbeats 4000000 in
theorem w_X4_markAt_0 {p : Program} {l : Launch} {e : Env} {s : State} {m : MethodId} {args : Array Value} {below : List Frame} {meth : Method} {c : Code} {Q : State → Prop} {D : va_G} {y : Nat → ClassId} {A0 : Nat → Prop} {o : Int32 × ZS} (X : CallFix p m c cX4_markAt 2 s args wsX4_markAt RX4) (hret : zRi p l e ({ frames := 0, cells := 0, slots := 0, locals := 0 } : Room) s m args below meth c Q cX4_markAt D y A0 .int o) {x0 : Nat} {x1 : Int32} {S : ZS} {H : Heap} {locs : List Loc} {ls : Array Slot} (hf : f_X4_markAt_0 x0 x1 S = some o) (hM : zH D y A0 s H locs S) (hl : lv_has ls 2 [(0, .ref x0), (1, .int x1)]) : W p l e ({ frames := 0, cells := 0, slots := 0, locals := 0 } : Room) s m args below meth c H locs 0 0 Q (F0 m 0 ls []) := by
  obtain ⟨hx, hb, hml, hown, hts⟩ := id X
  unfold f_X4_markAt_0 at hf
  refine lv_aload_n hx hb dX4_markAt_0 rfl (lv_at hl 0 rfl) ?_
  obtain ⟨ca, hf⟩ := m_chkE hf
  refine z_get (k := 4) (j := 5) (C := RX4) (T := TX4) (N := 7) (fl := zf_4) (v := .int (zI S 5 x0)) X hw_X4_markAt_4 hM rfl zc_4 ca (by decide) fl_X4_markAt_4_5 rfl dX4_markAt_1 ?_
  clear ca
  refine lv_bipush (v := (8 : Int32)) hx hb dX4_markAt_4 (by decide) ?_
  refine lv_iload_n hx hb dX4_markAt_6 rfl (lv_at hl 1 rfl) ?_
  refine lv_imul hx hb dX4_markAt_7 ?_
  obtain ⟨v1, ev, hf⟩ := m_bndE hf
  refine m_top ev ?_
  clear ev
  refine lv_iushr (v := (((zI S 5 x0)).toUInt32 >>> ((v1).toUInt32 &&& Int32.toUInt32 31)).toInt32) hx hb dX4_markAt_8 rfl ?_
  obtain ⟨v2, ev, hf⟩ := m_bndE hf
  refine m_top ev ?_
  clear ev
  refine lv_sipush (v := (255 : Int32)) hx hb dX4_markAt_9 (by decide) ?_
  refine lv_iand hx hb dX4_markAt_12 ?_
  obtain ⟨v3, ev, hf⟩ := m_bndE hf
  refine m_top ev ?_
  clear ev
  cases hf
  exact hret H locs _ ls hM rfl dX4_markAt_13
def f_X4_markAt (x0 : Nat) (x1 : Int32) (S : ZS) : Option (Int32 × ZS) := f_X4_markAt_0 x0 x1 S
theorem c_X4_markAt {l : Launch} {D : va_G} {y : Nat → ClassId} {x0 : Nat} {x1 : Int32} {S : ZS} {o : Int32 × ZS} (hf : f_X4_markAt x0 x1 S = some o) : zMi l yX4_markAt wsX4_markAt ({ frames := 0, cells := 0, slots := 0, locals := 0 } : Room) [.ref x0, .int x1] D y S o :=
  z_entryI (own := RX4) (cc := cX4_markAt) (maxL := 2) (by decide) rfl rfl (Nat.le_of_ble_eq_true rfl) (fun p e s m args below meth c A0 Q H locs ls X hret hM hl => w_X4_markAt_0 X hret hf hM (lv_sub hl [0, 1] rfl))
theorem hd_X4_markAt : yX4_markAt.cls = RX4 ∧ yX4_markAt.cls ≠ "java/lang/invoke/MethodHandle" ∧ yX4_markAt.cls ≠ "java/lang/invoke/VarHandle" ∧ (parseMethodDescriptor yX4_markAt.desc).map (fun d => d.parameters.length) = some 1 := by decide +kernel
theorem fl_X3_putMove_0_3 : Cond.fieldLink RX3 129 "MoveTexts$Board" "side" "I" ∈ wsX3_putMove := by decide +kernel
theorem fl_X3_putMove_0_6 : Cond.fieldLink RX3 132 "MoveTexts$Board" "number" "I" ∈ wsX3_putMove := by decide +kernel
theorem fl_X3_putMove_3_0 : Cond.fieldLink RX3 12 "MoveTexts$GameWriter" "signWriter" "LMoveTexts$SignWriter;" ∈ wsX3_putMove := by decide +kernel
theorem fl_X3_putMove_4_1 : Cond.fieldLink RX3 119 "MoveTexts$Node" "move" "I" ∈ wsX3_putMove := by decide +kernel
theorem fl_X3_putMove_4_4 : Cond.fieldLink RX3 146 "MoveTexts$Node" "markCount" "I" ∈ wsX3_putMove := by decide +kernel
theorem hw_X3_putMove_0 : ∀ w ∈ wsX00, w ∈ wsX3_putMove := by decide +kernel
theorem hw_X3_putMove_3 : ∀ w ∈ wsX30, w ∈ wsX3_putMove := by decide +kernel
theorem hw_X3_putMove_4 : ∀ w ∈ wsX40, w ∈ wsX3_putMove := by decide +kernel
theorem sr_X3_putMove_138 : (RX3, 138, ".", 11) ∈ zSR := by decide +kernel
theorem sr_X3_putMove_140 : (RX3, 140, "...", 12) ∈ zSR := by decide +kernel
def g_X3_putMove_66s (Pw : Int32 → ZS → Prop) (self66 : Nat → Nat → Int32 → ZS → Nat → Nat → Prop) (x2 : Nat) (x4 : Nat) (x5 : Int32) (S : ZS) (C T : Nat) : Prop :=
  m_chkP (x2 ∈ zL S ∧ zK S x2 = 4) (
  m_ifP ((zI S 4 x2) ≤ x5) (
  m_gal (C) (T) (fun mc ms Pw => g_X3_putRemark x2 x4 S mc ms Pw) (fun r2 S3 C4 T5 =>
  Pw 0 S3)
  ) (
  m_gal (C) (T) (fun mc ms Pw => g_X3_putGap x4 S mc ms Pw) (fun r7 S8 C9 T10 =>
  m_chkP (x4 ∈ zL S8 ∧ zK S8 x4 = 6) (
  m_gal (C9) (T10) (fun mc ms Pw => g_X6_put x4 (36 : Int32) S8 mc ms Pw) (fun r12 S13 C14 T15 =>
  m_chkP (x2 ∈ zL S13 ∧ zK S13 x2 = 4) (
  m_calP (f_X4_markAt x2 x5 S13) (fun o16 =>
  m_chkP (x4 ∈ zL o16.2 ∧ zK o16.2 x4 = 6) (
  m_gal (C14) (T15) (fun mc ms Pw => g_X6_putNumber x4 o16.1 o16.2 mc ms Pw) (fun r18 S19 C20 T21 =>
  m_bndP (x5 + (1 : Int32)) (fun v22 =>
  self66 x2 x4 v22 S19 (C20) (T21)))))))))
  ))

set_option maxRecDepth 100000 in
set_option maxHeartbeats 4000000 in
theorem ws_X3_putMove_66 {p : Program} {l : Launch} {e : Env} {s : State} {m : MethodId} {args : Array Value} {below : List Frame} {meth : Method} {c : Code} {Q : State → Prop} {D : va_G} {y : Nat → ClassId} {A0 : Nat → Prop} {kc kt : Nat} {Pw : Int32 → ZS → Prop} (X : CallFix p m c cX3_putMove 6 s args wsX3_putMove RX3) (hret : zQv p l e ({ frames := 6, cells := kc, slots := kt, locals := 160 } : Room) s m args below meth c Q cX3_putMove D y A0 Pw) {self66 : Nat → Nat → Int32 → ZS → Nat → Nat → Prop} (hself66 : ∀ (x2 : Nat) (x4 : Nat) (x5 : Int32) (S : ZS) (C T : Nat) (H : Heap) (locs : List Loc) (ls : Array Slot), self66 x2 x4 x5 S C T → C ≤ kc ∧ T ≤ kt → zH D y A0 s H locs S → lv_has ls 6 [(2, .ref x2), (4, .ref x4), (5, .int x5)] → W p l e ({ frames := 6, cells := kc, slots := kt, locals := 160 } : Room) s m args below meth c H locs (kc - C) (kt - T) Q (F0 m 66 ls [])) {x2 : Nat} {x4 : Nat} {x5 : Int32} {S : ZS} {C T : Nat} {H : Heap} {locs : List Loc} {ls : Array Slot} (hf : g_X3_putMove_66s Pw self66 x2 x4 x5 S C T) (hCT : C ≤ kc ∧ T ≤ kt) (hM : zH D y A0 s H locs S) (hl : lv_has ls 6 [(2, .ref x2), (4, .ref x4), (5, .int x5)]) : W p l e ({ frames := 6, cells := kc, slots := kt, locals := 160 } : Room) s m args below meth c H locs (kc - C) (kt - T) Q (F0 m 66 ls []) := by
  obtain ⟨hx, hb, hml, hown, hts⟩ := id X
  unfold g_X3_putMove_66s at hf
  refine lv_iload hx hb dX3_putMove_66 (lv_at hl 2 rfl) ?_
  refine lv_aload_n hx hb dX3_putMove_68 rfl (lv_at hl 0 rfl) ?_
  obtain ⟨ca, hf⟩ := m_chkPE hf
  refine z_get (k := 4) (j := 4) (C := RX4) (T := TX4) (N := 7) (fl := zf_4) (v := .int (zI S 4 x2)) X hw_X3_putMove_4 hM rfl zc_4 ca (by decide) fl_X3_putMove_4_4 rfl dX3_putMove_69 ?_
  clear ca
  refine lv_icmp_ge (tgt := 104) hx hb dX3_putMove_72 (by decide) (fun cc1 => ?_) (fun cc1 => ?_)
  · replace hf := m_ifPT hf cc1
    refine lv_aload_n hx hb dX3_putMove_104 rfl (lv_at hl 0 rfl) ?_
    refine lv_aload hx hb dX3_putMove_105 (lv_at hl 1 rfl) ?_
    obtain ⟨mc, ms, hcm, ho⟩ := m_galE hf
    refine z_wcallSv X hM (c_X3_putRemark ho) gX3_putMove_X3_putRemark rfl ⟨rfl, rfl⟩ ⟨by show kc - (C) + mc ≤ kc; omega, by show kt - (T) + ms ≤ kt; omega⟩ hd_X3_putRemark ⟨Nat.le_of_ble_eq_true rfl, Nat.le_of_ble_eq_true rfl⟩ rfl hl.1 rfl (Nat.le_of_ble_eq_true rfl) dX3_putMove_107 (fun S3 H locs hf hM => ?_)
    refine z_eqCS (c2 := kc - (C - mc)) (t2 := kt - (T - ms)) (by omega) (by omega) ?_
    replace hCT : C - mc ≤ kc ∧ T - ms ≤ kt := by omega
    generalize C - mc = C4 at hf hCT ⊢
    generalize T - ms = T5 at hf hCT ⊢
    clear ho hcm
    exact hret _ _ _ H locs _ ls hf hM dX3_putMove_110
  · replace hf := m_ifPF hf cc1
    refine lv_aload hx hb dX3_putMove_75 (lv_at hl 1 rfl) ?_
    obtain ⟨mc, ms, hcm, ho⟩ := m_galE hf
    refine z_wcallSv X hM (c_X3_putGap ho) gX3_putMove_X3_putGap rfl ⟨rfl, rfl⟩ ⟨by show kc - (C) + mc ≤ kc; omega, by show kt - (T) + ms ≤ kt; omega⟩ hd_X3_putGap ⟨Nat.le_of_ble_eq_true rfl, Nat.le_of_ble_eq_true rfl⟩ rfl hl.1 rfl (Nat.le_of_ble_eq_true rfl) dX3_putMove_77 (fun S8 H locs hf hM => ?_)
    refine z_eqCS (c2 := kc - (C - mc)) (t2 := kt - (T - ms)) (by omega) (by omega) ?_
    replace hCT : C - mc ≤ kc ∧ T - ms ≤ kt := by omega
    generalize C - mc = C9 at hf hCT ⊢
    generalize T - ms = T10 at hf hCT ⊢
    clear ho hcm
    refine lv_aload hx hb dX3_putMove_80 (lv_at hl 1 rfl) ?_
    refine lv_bipush (v := (36 : Int32)) hx hb dX3_putMove_82 (by decide) ?_
    obtain ⟨ca, hf⟩ := m_chkPE hf
    obtain ⟨mc, ms, hcm, ho⟩ := m_galE hf
    refine z_wcallVv (k := 6) (C := RX6) (T := TX6) (N := 2) (fl := zf_6) X hM rfl zc_6 ca (c_X6_put ho) gX3_putMove_X6_put rfl ⟨rfl, rfl⟩ ⟨by show kc - (C9) + mc ≤ kc; omega, by show kt - (T10) + ms ≤ kt; omega⟩ hd_X6_put ⟨Nat.le_of_ble_eq_true rfl, Nat.le_of_ble_eq_true rfl⟩ rfl hl.1 rfl (Nat.le_of_ble_eq_true rfl) dX3_putMove_84 (fun S13 H locs hf hM => ?_)
    refine z_eqCS (c2 := kc - (C9 - mc)) (t2 := kt - (T10 - ms)) (by omega) (by omega) ?_
    replace hCT : C9 - mc ≤ kc ∧ T10 - ms ≤ kt := by omega
    generalize C9 - mc = C14 at hf hCT ⊢
    generalize T10 - ms = T15 at hf hCT ⊢
    clear ho hcm
    refine lv_aload hx hb dX3_putMove_87 (lv_at hl 1 rfl) ?_
    refine lv_aload_n hx hb dX3_putMove_89 rfl (lv_at hl 0 rfl) ?_
    refine lv_iload hx hb dX3_putMove_90 (lv_at hl 2 rfl) ?_
    obtain ⟨ca, hf⟩ := m_chkPE hf
    obtain ⟨o16, ho, hf⟩ := m_calPE hf
    refine z_gcallVi (k := 4) (C := RX4) (T := TX4) (N := 7) (fl := zf_4) X hM rfl zc_4 ca (c_X4_markAt ho) gX3_putMove_X4_markAt rfl ⟨rfl, rfl⟩ hd_X4_markAt ⟨Nat.le_of_ble_eq_true rfl, Nat.le_of_ble_eq_true rfl⟩ rfl hl.1 rfl ⟨Nat.sub_le _ _, Nat.sub_le _ _⟩ (Nat.le_of_ble_eq_true rfl) dX3_putMove_92 (fun H locs hM => ?_)
    clear ho
    obtain ⟨ca, hf⟩ := m_chkPE hf
    obtain ⟨mc, ms, hcm, ho⟩ := m_galE hf
    refine z_wcallVv (k := 6) (C := RX6) (T := TX6) (N := 2) (fl := zf_6) X hM rfl zc_6 ca (c_X6_putNumber ho) gX3_putMove_X6_putNumber rfl ⟨rfl, rfl⟩ ⟨by show kc - (C14) + mc ≤ kc; omega, by show kt - (T15) + ms ≤ kt; omega⟩ hd_X6_putNumber ⟨Nat.le_of_ble_eq_true rfl, Nat.le_of_ble_eq_true rfl⟩ rfl hl.1 rfl (Nat.le_of_ble_eq_true rfl) dX3_putMove_95 (fun S19 H locs hf hM => ?_)
    refine z_eqCS (c2 := kc - (C14 - mc)) (t2 := kt - (T15 - ms)) (by omega) (by omega) ?_
    replace hCT : C14 - mc ≤ kc ∧ T15 - ms ≤ kt := by omega
    generalize C14 - mc = C20 at hf hCT ⊢
    generalize T15 - ms = T21 at hf hCT ⊢
    clear ho hcm
    obtain ⟨v22, ev, hf⟩ := m_bndPE hf
    refine lv_iinc (v := v22) (lv' := [(5, .int v22), (2, .ref x2), (4, .ref x4)]) hx hb dX3_putMove_98 hl (k := 2) rfl (by rw [ev]; rfl) (by decide) rfl (fun ls hl => ?_)
    clear ev
    refine lv_goto (tgt := 66) hx hb dX3_putMove_101 (by decide) ?_
    exact hself66 x2 x4 v22 _ _ _ _ _ _ hf hCT hM (lv_sub hl [1, 2, 0] rfl)
def g_X3_putMove_66 (Pw : Int32 → ZS → Prop) : Nat → Nat → Nat → Int32 → ZS → Nat → Nat → Prop
  | 0 => fun _ _ _ _ _ _ => False
  | n + 1 => g_X3_putMove_66s Pw (g_X3_putMove_66 Pw n)
theorem w_X3_putMove_66 {p : Program} {l : Launch} {e : Env} {s : State} {m : MethodId} {args : Array Value} {below : List Frame} {meth : Method} {c : Code} {Q : State → Prop} {D : va_G} {y : Nat → ClassId} {A0 : Nat → Prop} {kc kt : Nat} {Pw : Int32 → ZS → Prop} (X : CallFix p m c cX3_putMove 6 s args wsX3_putMove RX3) (hret : zQv p l e ({ frames := 6, cells := kc, slots := kt, locals := 160 } : Room) s m args below meth c Q cX3_putMove D y A0 Pw) (n : Nat) : ∀ (x2 : Nat) (x4 : Nat) (x5 : Int32) (S : ZS) (C T : Nat) (H : Heap) (locs : List Loc) (ls : Array Slot), g_X3_putMove_66 Pw n x2 x4 x5 S C T → C ≤ kc ∧ T ≤ kt → zH D y A0 s H locs S → lv_has ls 6 [(2, .ref x2), (4, .ref x4), (5, .int x5)] → W p l e ({ frames := 6, cells := kc, slots := kt, locals := 160 } : Room) s m args below meth c H locs (kc - C) (kt - T) Q (F0 m 66 ls []) := by
  induction n with
  | zero => intro x2 x4 x5 S C T H locs ls hf; exact absurd hf id
  | succ n ih => intro x2 x4 x5 S C T H locs ls hf hCT hM hl; exact ws_X3_putMove_66 X hret (self66 := g_X3_putMove_66 Pw n) ih hf hCT hM hl
def g_X3_putMove_44 (Pw : Int32 → ZS → Prop) (x0 : Nat) (x1 : Nat) (x2 : Nat) (x4 : Nat) (S : ZS) (C T : Nat) : Prop :=
  m_gal (C) (T) (fun mc ms Pw => g_X3_putGap x4 S mc ms Pw) (fun r2 S3 C4 T5 =>
  m_chkP (x0 ∈ zL S3 ∧ zK S3 x0 = 3) (
  m_calP (zP S3 0 x0) (fun b6 =>
  m_chkP (x2 ∈ zL S3 ∧ zK S3 x2 = 4) (
  m_chkP (b6 ∈ zL S3 ∧ zK S3 b6 = 9) (
  m_gal (C4) (T5) (fun mc ms Pw => g_X9_putSigns b6 x1 (zI S3 1 x2) x4 S3 mc ms Pw) (fun r8 S9 C10 T11 =>
  g_X3_putMove_66 Pw mFuel x2 x4 (0 : Int32) S9 (C10) (T11)))))))

set_option maxRecDepth 100000 in
set_option maxHeartbeats 4000000 in
theorem w_X3_putMove_44 {p : Program} {l : Launch} {e : Env} {s : State} {m : MethodId} {args : Array Value} {below : List Frame} {meth : Method} {c : Code} {Q : State → Prop} {D : va_G} {y : Nat → ClassId} {A0 : Nat → Prop} {kc kt : Nat} {Pw : Int32 → ZS → Prop} (X : CallFix p m c cX3_putMove 6 s args wsX3_putMove RX3) (hret : zQv p l e ({ frames := 6, cells := kc, slots := kt, locals := 160 } : Room) s m args below meth c Q cX3_putMove D y A0 Pw) {x0 : Nat} {x1 : Nat} {x2 : Nat} {x4 : Nat} {S : ZS} {C T : Nat} {H : Heap} {locs : List Loc} {ls : Array Slot} (hf : g_X3_putMove_44 Pw x0 x1 x2 x4 S C T) (hCT : C ≤ kc ∧ T ≤ kt) (hM : zH D y A0 s H locs S) (hl : lv_has ls 6 [(0, .ref x0), (1, .ref x1), (2, .ref x2), (4, .ref x4)]) : W p l e ({ frames := 6, cells := kc, slots := kt, locals := 160 } : Room) s m args below meth c H locs (kc - C) (kt - T) Q (F0 m 44 ls []) := by
  obtain ⟨hx, hb, hml, hown, hts⟩ := id X
  unfold g_X3_putMove_44 at hf
  refine lv_aload hx hb dX3_putMove_44 (lv_at hl 3 rfl) ?_
  obtain ⟨mc, ms, hcm, ho⟩ := m_galE hf
  refine z_wcallSv X hM (c_X3_putGap ho) gX3_putMove_X3_putGap rfl ⟨rfl, rfl⟩ ⟨by show kc - (C) + mc ≤ kc; omega, by show kt - (T) + ms ≤ kt; omega⟩ hd_X3_putGap ⟨Nat.le_of_ble_eq_true rfl, Nat.le_of_ble_eq_true rfl⟩ rfl hl.1 rfl (Nat.le_of_ble_eq_true rfl) dX3_putMove_46 (fun S3 H locs hf hM => ?_)
  refine z_eqCS (c2 := kc - (C - mc)) (t2 := kt - (T - ms)) (by omega) (by omega) ?_
  replace hCT : C - mc ≤ kc ∧ T - ms ≤ kt := by omega
  generalize C - mc = C4 at hf hCT ⊢
  generalize T - ms = T5 at hf hCT ⊢
  clear ho hcm
  refine lv_aload_n hx hb dX3_putMove_49 rfl (lv_at hl 0 rfl) ?_
  obtain ⟨ca, hf⟩ := m_chkPE hf
  refine z_get (k := 3) (j := 0) (C := RX3) (T := TX3) (N := 2) (fl := zf_3) (v := va_rf (zP S3 0 x0)) X hw_X3_putMove_3 hM rfl zc_3 ca (by decide) fl_X3_putMove_3_0 rfl dX3_putMove_50 ?_
  clear ca
  obtain ⟨b6, hb9, hf⟩ := m_calPE hf
  refine z_topr hb9 ?_
  clear hb9
  refine lv_aload_n hx hb dX3_putMove_53 rfl (lv_at hl 1 rfl) ?_
  refine lv_aload_n hx hb dX3_putMove_54 rfl (lv_at hl 2 rfl) ?_
  obtain ⟨ca, hf⟩ := m_chkPE hf
  refine z_get (k := 4) (j := 1) (C := RX4) (T := TX4) (N := 7) (fl := zf_4) (v := .int (zI S3 1 x2)) X hw_X3_putMove_4 hM rfl zc_4 ca (by decide) fl_X3_putMove_4_1 rfl dX3_putMove_55 ?_
  clear ca
  refine lv_aload hx hb dX3_putMove_58 (lv_at hl 3 rfl) ?_
  obtain ⟨ca, hf⟩ := m_chkPE hf
  obtain ⟨mc, ms, hcm, ho⟩ := m_galE hf
  refine z_wcallVv (k := 9) (C := RX9) (T := TX9) (N := 1) (fl := zf_9) X hM rfl zc_9 ca (c_X9_putSigns ho) gX3_putMove_X9_putSigns rfl ⟨rfl, rfl⟩ ⟨by show kc - (C4) + mc ≤ kc; omega, by show kt - (T5) + ms ≤ kt; omega⟩ hd_X9_putSigns ⟨Nat.le_of_ble_eq_true rfl, Nat.le_of_ble_eq_true rfl⟩ rfl hl.1 rfl (Nat.le_of_ble_eq_true rfl) dX3_putMove_60 (fun S9 H locs hf hM => ?_)
  refine z_eqCS (c2 := kc - (C4 - mc)) (t2 := kt - (T5 - ms)) (by omega) (by omega) ?_
  replace hCT : C4 - mc ≤ kc ∧ T5 - ms ≤ kt := by omega
  generalize C4 - mc = C10 at hf hCT ⊢
  generalize T5 - ms = T11 at hf hCT ⊢
  clear ho hcm
  refine lv_iconst (v := (0 : Int32)) hx hb dX3_putMove_63 (by decide) ?_
  refine lv_istore (lv' := [(5, .int (0 : Int32)), (0, .ref x0), (1, .ref x1), (2, .ref x2), (4, .ref x4)]) hx hb dX3_putMove_64 hl (by decide) rfl (fun ls hl => ?_)
  exact w_X3_putMove_66 X hret _ x2 x4 (0 : Int32) _ _ _ _ _ _ hf hCT hM (lv_sub hl [3, 4, 0] rfl)
def g_X3_putMove_41 (Pw : Int32 → ZS → Prop) (x0 : Nat) (x1 : Nat) (x2 : Nat) (x4 : Nat) (t0 : Nat) (t1 : Nat) (S : ZS) (C T : Nat) : Prop :=
  m_chkP (t1 ∈ zL S ∧ zK S t1 = 6) (
  m_gal (C) (T) (fun mc ms Pw => g_X6_putText t1 t0 S mc ms Pw) (fun r2 S3 C4 T5 =>
  g_X3_putMove_44 Pw x0 x1 x2 x4 S3 (C4) (T5)))

set_option maxRecDepth 100000 in
set_option maxHeartbeats 4000000 in
theorem w_X3_putMove_41 {p : Program} {l : Launch} {e : Env} {s : State} {m : MethodId} {args : Array Value} {below : List Frame} {meth : Method} {c : Code} {Q : State → Prop} {D : va_G} {y : Nat → ClassId} {A0 : Nat → Prop} {kc kt : Nat} {Pw : Int32 → ZS → Prop} (X : CallFix p m c cX3_putMove 6 s args wsX3_putMove RX3) (hret : zQv p l e ({ frames := 6, cells := kc, slots := kt, locals := 160 } : Room) s m args below meth c Q cX3_putMove D y A0 Pw) {x0 : Nat} {x1 : Nat} {x2 : Nat} {x4 : Nat} {t0 : Nat} {t1 : Nat} {S : ZS} {C T : Nat} {H : Heap} {locs : List Loc} {ls : Array Slot} (hf : g_X3_putMove_41 Pw x0 x1 x2 x4 t0 t1 S C T) (hCT : C ≤ kc ∧ T ≤ kt) (hM : zH D y A0 s H locs S) (hl : lv_has ls 6 [(0, .ref x0), (1, .ref x1), (2, .ref x2), (4, .ref x4)]) : W p l e ({ frames := 6, cells := kc, slots := kt, locals := 160 } : Room) s m args below meth c H locs (kc - C) (kt - T) Q (F0 m 41 ls [.ref (y (100 + t0)), .ref t1]) := by
  obtain ⟨hx, hb, hml, hown, hts⟩ := id X
  unfold g_X3_putMove_41 at hf
  obtain ⟨ca, hf⟩ := m_chkPE hf
  obtain ⟨mc, ms, hcm, ho⟩ := m_galE hf
  refine z_wcallVv (k := 6) (C := RX6) (T := TX6) (N := 2) (fl := zf_6) X hM rfl zc_6 ca (c_X6_putText ho) gX3_putMove_X6_putText rfl ⟨rfl, rfl⟩ ⟨by show kc - (C) + mc ≤ kc; omega, by show kt - (T) + ms ≤ kt; omega⟩ hd_X6_putText ⟨Nat.le_of_ble_eq_true rfl, Nat.le_of_ble_eq_true rfl⟩ rfl hl.1 rfl (Nat.le_of_ble_eq_true rfl) dX3_putMove_41 (fun S3 H locs hf hM => ?_)
  refine z_eqCS (c2 := kc - (C - mc)) (t2 := kt - (T - ms)) (by omega) (by omega) ?_
  replace hCT : C - mc ≤ kc ∧ T - ms ≤ kt := by omega
  generalize C - mc = C4 at hf hCT ⊢
  generalize T - ms = T5 at hf hCT ⊢
  clear ho hcm
  exact w_X3_putMove_44 (x0 := x0) (x1 := x1) (x2 := x2) (x4 := x4) X hret hf hCT hM (lv_sub hl [0, 1, 2, 3] rfl)
def g_X3_putMove_11 (Pw : Int32 → ZS → Prop) (x0 : Nat) (x1 : Nat) (x2 : Nat) (x4 : Nat) (S : ZS) (C T : Nat) : Prop :=
  m_gal (C) (T) (fun mc ms Pw => g_X3_putGap x4 S mc ms Pw) (fun r2 S3 C4 T5 =>
  m_chkP (x1 ∈ zL S3 ∧ zK S3 x1 = 0) (
  m_chkP (x4 ∈ zL S3 ∧ zK S3 x4 = 6) (
  m_gal (C4) (T5) (fun mc ms Pw => g_X6_putNumber x4 (zI S3 6 x1) S3 mc ms Pw) (fun r7 S8 C9 T10 =>
  m_chkP (x1 ∈ zL S8 ∧ zK S8 x1 = 0) (
  m_ifP ((zI S8 3 x1) = 0) (
  g_X3_putMove_41 Pw x0 x1 x2 x4 11 x4 S8 (C9) (T10)
  ) (
  g_X3_putMove_41 Pw x0 x1 x2 x4 12 x4 S8 (C9) (T10)
  ))))))

set_option maxRecDepth 100000 in
set_option maxHeartbeats 4000000 in
theorem w_X3_putMove_11 {p : Program} {l : Launch} {e : Env} {s : State} {m : MethodId} {args : Array Value} {below : List Frame} {meth : Method} {c : Code} {Q : State → Prop} {D : va_G} {y : Nat → ClassId} {A0 : Nat → Prop} {kc kt : Nat} {Pw : Int32 → ZS → Prop} (X : CallFix p m c cX3_putMove 6 s args wsX3_putMove RX3) (hret : zQv p l e ({ frames := 6, cells := kc, slots := kt, locals := 160 } : Room) s m args below meth c Q cX3_putMove D y A0 Pw) {x0 : Nat} {x1 : Nat} {x2 : Nat} {x4 : Nat} {S : ZS} {C T : Nat} {H : Heap} {locs : List Loc} {ls : Array Slot} (hf : g_X3_putMove_11 Pw x0 x1 x2 x4 S C T) (hCT : C ≤ kc ∧ T ≤ kt) (hM : zH D y A0 s H locs S) (hl : lv_has ls 6 [(0, .ref x0), (1, .ref x1), (2, .ref x2), (4, .ref x4)]) : W p l e ({ frames := 6, cells := kc, slots := kt, locals := 160 } : Room) s m args below meth c H locs (kc - C) (kt - T) Q (F0 m 11 ls []) := by
  obtain ⟨hx, hb, hml, hown, hts⟩ := id X
  unfold g_X3_putMove_11 at hf
  refine lv_aload hx hb dX3_putMove_11 (lv_at hl 3 rfl) ?_
  obtain ⟨mc, ms, hcm, ho⟩ := m_galE hf
  refine z_wcallSv X hM (c_X3_putGap ho) gX3_putMove_X3_putGap rfl ⟨rfl, rfl⟩ ⟨by show kc - (C) + mc ≤ kc; omega, by show kt - (T) + ms ≤ kt; omega⟩ hd_X3_putGap ⟨Nat.le_of_ble_eq_true rfl, Nat.le_of_ble_eq_true rfl⟩ rfl hl.1 rfl (Nat.le_of_ble_eq_true rfl) dX3_putMove_13 (fun S3 H locs hf hM => ?_)
  refine z_eqCS (c2 := kc - (C - mc)) (t2 := kt - (T - ms)) (by omega) (by omega) ?_
  replace hCT : C - mc ≤ kc ∧ T - ms ≤ kt := by omega
  generalize C - mc = C4 at hf hCT ⊢
  generalize T - ms = T5 at hf hCT ⊢
  clear ho hcm
  refine lv_aload hx hb dX3_putMove_16 (lv_at hl 3 rfl) ?_
  refine lv_aload_n hx hb dX3_putMove_18 rfl (lv_at hl 1 rfl) ?_
  obtain ⟨ca, hf⟩ := m_chkPE hf
  refine z_get (k := 0) (j := 6) (C := RX0) (T := TX0) (N := 7) (fl := zf_0) (v := .int (zI S3 6 x1)) X hw_X3_putMove_0 hM rfl zc_0 ca (by decide) fl_X3_putMove_0_6 rfl dX3_putMove_19 ?_
  clear ca
  obtain ⟨ca, hf⟩ := m_chkPE hf
  obtain ⟨mc, ms, hcm, ho⟩ := m_galE hf
  refine z_wcallVv (k := 6) (C := RX6) (T := TX6) (N := 2) (fl := zf_6) X hM rfl zc_6 ca (c_X6_putNumber ho) gX3_putMove_X6_putNumber rfl ⟨rfl, rfl⟩ ⟨by show kc - (C4) + mc ≤ kc; omega, by show kt - (T5) + ms ≤ kt; omega⟩ hd_X6_putNumber ⟨Nat.le_of_ble_eq_true rfl, Nat.le_of_ble_eq_true rfl⟩ rfl hl.1 rfl (Nat.le_of_ble_eq_true rfl) dX3_putMove_22 (fun S8 H locs hf hM => ?_)
  refine z_eqCS (c2 := kc - (C4 - mc)) (t2 := kt - (T5 - ms)) (by omega) (by omega) ?_
  replace hCT : C4 - mc ≤ kc ∧ T5 - ms ≤ kt := by omega
  generalize C4 - mc = C9 at hf hCT ⊢
  generalize T5 - ms = T10 at hf hCT ⊢
  clear ho hcm
  refine lv_aload hx hb dX3_putMove_25 (lv_at hl 3 rfl) ?_
  refine lv_aload_n hx hb dX3_putMove_27 rfl (lv_at hl 1 rfl) ?_
  obtain ⟨ca, hf⟩ := m_chkPE hf
  refine z_get (k := 0) (j := 3) (C := RX0) (T := TX0) (N := 7) (fl := zf_0) (v := .int (zI S8 3 x1)) X hw_X3_putMove_0 hM rfl zc_0 ca (by decide) fl_X3_putMove_0_3 rfl dX3_putMove_28 ?_
  clear ca
  refine lv_if_ne (tgt := 39) hx hb dX3_putMove_31 (by decide) (fun cc1 => ?_) (fun cc1 => ?_)
  · replace hf := m_ifPF hf cc1
    refine z_ldcS X hM sr_X3_putMove_140 dX3_putMove_39 ?_
    exact w_X3_putMove_41 (x0 := x0) (x1 := x1) (x2 := x2) (x4 := x4) (t0 := 12) (t1 := x4) X hret hf hCT hM (lv_sub hl [0, 1, 2, 3] rfl)
  · replace hf := m_ifPT hf cc1
    refine z_ldcS X hM sr_X3_putMove_138 dX3_putMove_34 ?_
    refine lv_goto (tgt := 41) hx hb dX3_putMove_36 (by decide) ?_
    exact w_X3_putMove_41 (x0 := x0) (x1 := x1) (x2 := x2) (x4 := x4) (t0 := 11) (t1 := x4) X hret hf hCT hM (lv_sub hl [0, 1, 2, 3] rfl)
def g_X3_putMove_0 (Pw : Int32 → ZS → Prop) (x0 : Nat) (x1 : Nat) (x2 : Nat) (x3 : Int32) (x4 : Nat) (S : ZS) (C T : Nat) : Prop :=
  m_chkP (x1 ∈ zL S ∧ zK S x1 = 0) (
  m_ifP ((zI S 3 x1) = 0) (
  g_X3_putMove_11 Pw x0 x1 x2 x4 S (C) (T)
  ) (
  m_ifP (x3 = 0) (
  g_X3_putMove_44 Pw x0 x1 x2 x4 S (C) (T)
  ) (
  g_X3_putMove_11 Pw x0 x1 x2 x4 S (C) (T)
  )
  ))

set_option maxRecDepth 100000 in
set_option maxHeartbeats 4000000 in
theorem w_X3_putMove_0 {p : Program} {l : Launch} {e : Env} {s : State} {m : MethodId} {args : Array Value} {below : List Frame} {meth : Method} {c : Code} {Q : State → Prop} {D : va_G} {y : Nat → ClassId} {A0 : Nat → Prop} {kc kt : Nat} {Pw : Int32 → ZS → Prop} (X : CallFix p m c cX3_putMove 6 s args wsX3_putMove RX3) (hret : zQv p l e ({ frames := 6, cells := kc, slots := kt, locals := 160 } : Room) s m args below meth c Q cX3_putMove D y A0 Pw) {x0 : Nat} {x1 : Nat} {x2 : Nat} {x3 : Int32} {x4 : Nat} {S : ZS} {C T : Nat} {H : Heap} {locs : List Loc} {ls : Array Slot} (hf : g_X3_putMove_0 Pw x0 x1 x2 x3 x4 S C T) (hCT : C ≤ kc ∧ T ≤ kt) (hM : zH D y A0 s H locs S) (hl : lv_has ls 6 [(0, .ref x0), (1, .ref x1), (2, .ref x2), (3, .int x3), (4, .ref x4)]) : W p l e ({ frames := 6, cells := kc, slots := kt, locals := 160 } : Room) s m args below meth c H locs (kc - C) (kt - T) Q (F0 m 0 ls []) := by
  obtain ⟨hx, hb, hml, hown, hts⟩ := id X
  unfold g_X3_putMove_0 at hf
  refine lv_aload_n hx hb dX3_putMove_0 rfl (lv_at hl 1 rfl) ?_
  obtain ⟨ca, hf⟩ := m_chkPE hf
  refine z_get (k := 0) (j := 3) (C := RX0) (T := TX0) (N := 7) (fl := zf_0) (v := .int (zI S 3 x1)) X hw_X3_putMove_0 hM rfl zc_0 ca (by decide) fl_X3_putMove_0_3 rfl dX3_putMove_1 ?_
  clear ca
  refine lv_if_eq (tgt := 11) hx hb dX3_putMove_4 (by decide) (fun cc1 => ?_) (fun cc1 => ?_)
  · replace hf := m_ifPT hf cc1
    exact w_X3_putMove_11 (x0 := x0) (x1 := x1) (x2 := x2) (x4 := x4) X hret hf hCT hM (lv_sub hl [0, 1, 2, 4] rfl)
  · replace hf := m_ifPF hf cc1
    refine lv_iload_n hx hb dX3_putMove_7 rfl (lv_at hl 3 rfl) ?_
    refine lv_if_eq (tgt := 44) hx hb dX3_putMove_8 (by decide) (fun cc1 => ?_) (fun cc1 => ?_)
    · replace hf := m_ifPT hf cc1
      exact w_X3_putMove_44 (x0 := x0) (x1 := x1) (x2 := x2) (x4 := x4) X hret hf hCT hM (lv_sub hl [0, 1, 2, 4] rfl)
    · replace hf := m_ifPF hf cc1
      exact w_X3_putMove_11 (x0 := x0) (x1 := x1) (x2 := x2) (x4 := x4) X hret hf hCT hM (lv_sub hl [0, 1, 2, 4] rfl)
def g_X3_putMove (x0 : Nat) (x1 : Nat) (x2 : Nat) (x3 : Int32) (x4 : Nat) (S : ZS) (mc ms : Nat) (Pw : Int32 → ZS → Prop) : Prop := g_X3_putMove_0 Pw x0 x1 x2 x3 x4 S mc ms
theorem c_X3_putMove {l : Launch} {D : va_G} {y : Nat → ClassId} {x0 : Nat} {x1 : Nat} {x2 : Nat} {x3 : Int32} {x4 : Nat} {S : ZS} {kc kt : Nat} {Pw : Int32 → ZS → Prop} (hf : g_X3_putMove x0 x1 x2 x3 x4 S kc kt Pw) : zWv l yX3_putMove wsX3_putMove ({ frames := 6, cells := kc, slots := kt, locals := 160 } : Room) [.ref x0, .ref x1, .ref x2, .int x3, .ref x4] D y S kc kt Pw :=
  z_wentV (own := RX3) (cc := cX3_putMove) (maxL := 6) (by decide) rfl rfl (Nat.le_of_ble_eq_true rfl) ⟨rfl, rfl⟩ (fun p e s m args below meth c A0 Q H locs ls X hret hM hl => w_X3_putMove_0 X hret hf ⟨Nat.le_refl _, Nat.le_refl _⟩ hM (lv_sub hl [0, 1, 2, 3, 4] rfl))
theorem hd_X3_putMove : yX3_putMove.cls = RX3 ∧ yX3_putMove.cls ≠ "java/lang/invoke/MethodHandle" ∧ yX3_putMove.cls ≠ "java/lang/invoke/VarHandle" ∧ (parseMethodDescriptor yX3_putMove.desc).map (fun d => d.parameters.length) = some 4 := by decide +kernel
theorem fl_X5_skip_5_0 : Cond.fieldLink RX5 12 "MoveTexts$PositionReader" "text" "LMoveTexts$Row;" ∈ wsX5_skip := by decide +kernel
theorem fl_X5_skip_5_1 : Cond.fieldLink RX5 18 "MoveTexts$PositionReader" "at" "I" ∈ wsX5_skip := by decide +kernel
theorem hw_X5_skip_5 : ∀ w ∈ wsX50, w ∈ wsX5_skip := by decide +kernel
def f_X5_skip_0 (x0 : Nat) (x1 : Int32) (S : ZS) : Option (Int32 × ZS) :=
  m_chk (x0 ∈ zL S ∧ zK S x0 = 5) (
  m_cal (zP S 0 x0) (fun b1 =>
  m_chk (x0 ∈ zL S ∧ zK S x0 = 5) (
  m_chk (b1 ∈ zL S ∧ zK S b1 = 6) (
  m_cal (f_X6_at b1 (zI S 1 x0) S) (fun o2 =>
  m_if (o2.1 = x1) (
  m_chk (x0 ∈ zL o2.2 ∧ zK o2.2 x0 = 5) (
  m_bnd ((zI o2.2 1 x0) + (1 : Int32)) (fun v3 =>
  m_chk (x0 ∈ zL o2.2 ∧ zK o2.2 x0 = 5) (
  m_bnd (zsI o2.2 1 x0 v3) (fun S4 =>
  m_chk (vp_nar .boolean (1 : Int32) = (1 : Int32)) (some ((1 : Int32), S4))))))
  ) (
  m_chk (vp_nar .boolean (0 : Int32) = (0 : Int32)) (some ((0 : Int32), o2.2))
  ))))))

set_option maxRecDepth 100000 in
set_option maxHeartbeats 4000000 in
theorem w_X5_skip_0 {p : Program} {l : Launch} {e : Env} {s : State} {m : MethodId} {args : Array Value} {below : List Frame} {meth : Method} {c : Code} {Q : State → Prop} {D : va_G} {y : Nat → ClassId} {A0 : Nat → Prop} {o : Int32 × ZS} (X : CallFix p m c cX5_skip 2 s args wsX5_skip RX5) (hret : zRi p l e ({ frames := 1, cells := 0, slots := 0, locals := 21 } : Room) s m args below meth c Q cX5_skip D y A0 .boolean o) {x0 : Nat} {x1 : Int32} {S : ZS} {H : Heap} {locs : List Loc} {ls : Array Slot} (hf : f_X5_skip_0 x0 x1 S = some o) (hM : zH D y A0 s H locs S) (hl : lv_has ls 2 [(0, .ref x0), (1, .int x1)]) : W p l e ({ frames := 1, cells := 0, slots := 0, locals := 21 } : Room) s m args below meth c H locs 0 0 Q (F0 m 0 ls []) := by
  obtain ⟨hx, hb, hml, hown, hts⟩ := id X
  unfold f_X5_skip_0 at hf
  refine lv_aload_n hx hb dX5_skip_0 rfl (lv_at hl 0 rfl) ?_
  obtain ⟨ca, hf⟩ := m_chkE hf
  refine z_get (k := 5) (j := 0) (C := RX5) (T := TX5) (N := 2) (fl := zf_5) (v := va_rf (zP S 0 x0)) X hw_X5_skip_5 hM rfl zc_5 ca (by decide) fl_X5_skip_5_0 rfl dX5_skip_1 ?_
  clear ca
  obtain ⟨b1, hb9, hf⟩ := m_calE hf
  refine z_topr hb9 ?_
  clear hb9
  refine lv_aload_n hx hb dX5_skip_4 rfl (lv_at hl 0 rfl) ?_
  obtain ⟨ca, hf⟩ := m_chkE hf
  refine z_get (k := 5) (j := 1) (C := RX5) (T := TX5) (N := 2) (fl := zf_5) (v := .int (zI S 1 x0)) X hw_X5_skip_5 hM rfl zc_5 ca (by decide) fl_X5_skip_5_1 rfl dX5_skip_5 ?_
  clear ca
  obtain ⟨ca, hf⟩ := m_chkE hf
  obtain ⟨o2, ho, hf⟩ := m_calE hf
  refine z_callVi (k := 6) (C := RX6) (T := TX6) (N := 2) (fl := zf_6) X hM rfl zc_6 ca (c_X6_at ho) gX5_skip_X6_at rfl ⟨rfl, rfl⟩ hd_X6_at ⟨Nat.le_of_ble_eq_true rfl, Nat.le_of_ble_eq_true rfl⟩ rfl hl.1 rfl (Nat.le_of_ble_eq_true rfl) dX5_skip_8 (fun H locs hM => ?_)
  clear ho
  refine lv_iload_n hx hb dX5_skip_11 rfl (lv_at hl 1 rfl) ?_
  refine lv_icmp_eq (tgt := 17) hx hb dX5_skip_12 (by decide) (fun cc1 => ?_) (fun cc1 => ?_)
  · replace hf := m_ifT hf cc1
    refine lv_aload_n hx hb dX5_skip_17 rfl (lv_at hl 0 rfl) ?_
    refine lv_dup hx hb dX5_skip_18 rfl ?_
    obtain ⟨ca, hf⟩ := m_chkE hf
    refine z_get (k := 5) (j := 1) (C := RX5) (T := TX5) (N := 2) (fl := zf_5) (v := .int (zI o2.2 1 x0)) X hw_X5_skip_5 hM rfl zc_5 ca (by decide) fl_X5_skip_5_1 rfl dX5_skip_19 ?_
    clear ca
    refine lv_iconst (v := (1 : Int32)) hx hb dX5_skip_22 (by decide) ?_
    refine lv_iadd hx hb dX5_skip_23 ?_
    obtain ⟨v3, ev, hf⟩ := m_bndE hf
    refine m_top ev ?_
    clear ev
    obtain ⟨ca, hf⟩ := m_chkE hf
    refine z_putI (k := 5) (j := 1) (C := RX5) (T := TX5) (N := 2) (fl := zf_5) (ty := .int) X hw_X5_skip_5 tyX5_ok nmX5 hM rfl zc_5 ca (by decide) fl_X5_skip_5_1 rfl (tyX5_ok 1 (by decide)) rfl rfl zi_5_1 (Nat.le_of_ble_eq_true rfl) dX5_skip_24 (fun H locs hM => ?_)
    clear ca
    obtain ⟨S4, ev, hf⟩ := m_bndE hf
    replace hM := z_hS hM ev
    clear ev
    refine lv_iconst (v := (1 : Int32)) hx hb dX5_skip_27 (by decide) ?_
    obtain ⟨cd, hf⟩ := m_chkE hf
    cases hf
    exact hret H locs _ ls hM (m_nb cd) dX5_skip_28
  · replace hf := m_ifF hf cc1
    refine lv_iconst (v := (0 : Int32)) hx hb dX5_skip_15 (by decide) ?_
    obtain ⟨cd, hf⟩ := m_chkE hf
    cases hf
    exact hret H locs _ ls hM (m_nb cd) dX5_skip_16
def f_X5_skip (x0 : Nat) (x1 : Int32) (S : ZS) : Option (Int32 × ZS) := f_X5_skip_0 x0 x1 S
theorem c_X5_skip {l : Launch} {D : va_G} {y : Nat → ClassId} {x0 : Nat} {x1 : Int32} {S : ZS} {o : Int32 × ZS} (hf : f_X5_skip x0 x1 S = some o) : zMi l yX5_skip wsX5_skip ({ frames := 1, cells := 0, slots := 0, locals := 21 } : Room) [.ref x0, .int x1] D y S o :=
  z_entryI (own := RX5) (cc := cX5_skip) (maxL := 2) (by decide) rfl rfl (Nat.le_of_ble_eq_true rfl) (fun p e s m args below meth c A0 Q H locs ls X hret hM hl => w_X5_skip_0 X hret hf hM (lv_sub hl [0, 1] rfl))
theorem hd_X5_skip : yX5_skip.cls = RX5 ∧ yX5_skip.cls ≠ "java/lang/invoke/MethodHandle" ∧ yX5_skip.cls ≠ "java/lang/invoke/VarHandle" ∧ (parseMethodDescriptor yX5_skip.desc).map (fun d => d.parameters.length) = some 1 := by decide +kernel
theorem fl_X5_readRank_5_0 : Cond.fieldLink RX5 12 "MoveTexts$PositionReader" "text" "LMoveTexts$Row;" ∈ wsX5_readRank := by decide +kernel
theorem fl_X5_readRank_5_1 : Cond.fieldLink RX5 18 "MoveTexts$PositionReader" "at" "I" ∈ wsX5_readRank := by decide +kernel
theorem hw_X5_readRank_5 : ∀ w ∈ wsX50, w ∈ wsX5_readRank := by decide +kernel
theorem nn_X5_readRank_70 : ((RX5, 70, yX11_isRank, "MoveTexts") ∈ zNW ∧ Cond.initialized yX11_isRank.cls ∈ wsX5_readRank) ∧ Cond.static yX11_isRank ∈ wsX5_readRank := by decide +kernel
theorem nn_X5_readRank_73 : ((RX5, 73, yX11_isLetter, "MoveTexts") ∈ zNW ∧ Cond.initialized yX11_isLetter.cls ∈ wsX5_readRank) ∧ Cond.static yX11_isLetter ∈ wsX5_readRank := by decide +kernel
theorem sr_X5_readRank_76 : (RX5, 76, "PNBRQK  pnbrqk", 1) ∈ zSR := by decide +kernel
def f_X5_readRank_136 (t0 : Int32) (S : ZS) : Option (Int32 × ZS) :=
  m_chk (vp_nar .boolean t0 = t0) (some (t0, S))

set_option maxRecDepth 100000 in
set_option maxHeartbeats 4000000 in
theorem w_X5_readRank_136 {p : Program} {l : Launch} {e : Env} {s : State} {m : MethodId} {args : Array Value} {below : List Frame} {meth : Method} {c : Code} {Q : State → Prop} {D : va_G} {y : Nat → ClassId} {A0 : Nat → Prop} {o : Int32 × ZS} (X : CallFix p m c cX5_readRank 8 s args wsX5_readRank RX5) (hret : zRi p l e ({ frames := 4, cells := 0, slots := 0, locals := 91 } : Room) s m args below meth c Q cX5_readRank D y A0 .boolean o) {t0 : Int32} {S : ZS} {H : Heap} {locs : List Loc} {ls : Array Slot} (hf : f_X5_readRank_136 t0 S = some o) (hM : zH D y A0 s H locs S) (hl : lv_has ls 8 []) : W p l e ({ frames := 4, cells := 0, slots := 0, locals := 91 } : Room) s m args below meth c H locs 0 0 Q (F0 m 136 ls [.int t0]) := by
  obtain ⟨hx, hb, hml, hown, hts⟩ := id X
  unfold f_X5_readRank_136 at hf
  obtain ⟨cd, hf⟩ := m_chkE hf
  cases hf
  exact hret H locs _ ls hM (m_nb cd) dX5_readRank_136
def f_X5_readRank_105 (self5 : Nat → Nat → Int32 → Int32 → Int32 → ZS → Option (Int32 × ZS)) (x0 : Nat) (x1 : Nat) (x2 : Int32) (x6 : Int32) (t0 : Int32) (t1 : Int32) (S : ZS) : Option (Int32 × ZS) :=
  m_bnd (t1 + t0) (fun v1 =>
  m_chk (x0 ∈ zL S ∧ zK S x0 = 5) (
  m_bnd ((zI S 1 x0) + (1 : Int32)) (fun v2 =>
  m_chk (x0 ∈ zL S ∧ zK S x0 = 5) (
  m_bnd (zsI S 1 x0 v2) (fun S3 =>
  self5 x0 x1 x2 x6 v1 S3)))))

set_option maxRecDepth 100000 in
set_option maxHeartbeats 4000000 in
theorem w_X5_readRank_105 {p : Program} {l : Launch} {e : Env} {s : State} {m : MethodId} {args : Array Value} {below : List Frame} {meth : Method} {c : Code} {Q : State → Prop} {D : va_G} {y : Nat → ClassId} {A0 : Nat → Prop} {o : Int32 × ZS} (X : CallFix p m c cX5_readRank 8 s args wsX5_readRank RX5) (hret : zRi p l e ({ frames := 4, cells := 0, slots := 0, locals := 91 } : Room) s m args below meth c Q cX5_readRank D y A0 .boolean o) {self5 : Nat → Nat → Int32 → Int32 → Int32 → ZS → Option (Int32 × ZS)} (hself5 : ∀ (x0 : Nat) (x1 : Nat) (x2 : Int32) (x3 : Int32) (x4 : Int32) (S : ZS) (H : Heap) (locs : List Loc) (ls : Array Slot), self5 x0 x1 x2 x3 x4 S = some o → zH D y A0 s H locs S → lv_has ls 8 [(0, .ref x0), (1, .ref x1), (2, .int x2), (3, .int x3), (4, .int x4)] → W p l e ({ frames := 4, cells := 0, slots := 0, locals := 91 } : Room) s m args below meth c H locs 0 0 Q (F0 m 5 ls [])) {x0 : Nat} {x1 : Nat} {x2 : Int32} {x6 : Int32} {t0 : Int32} {t1 : Int32} {S : ZS} {H : Heap} {locs : List Loc} {ls : Array Slot} (hf : f_X5_readRank_105 self5 x0 x1 x2 x6 t0 t1 S = some o) (hM : zH D y A0 s H locs S) (hl : lv_has ls 8 [(0, .ref x0), (1, .ref x1), (2, .int x2), (6, .int x6)]) : W p l e ({ frames := 4, cells := 0, slots := 0, locals := 91 } : Room) s m args below meth c H locs 0 0 Q (F0 m 105 ls [.int t0, .int t1]) := by
  obtain ⟨hx, hb, hml, hown, hts⟩ := id X
  unfold f_X5_readRank_105 at hf
  refine lv_iadd hx hb dX5_readRank_105 ?_
  obtain ⟨v1, ev, hf⟩ := m_bndE hf
  refine m_top ev ?_
  clear ev
  refine lv_istore (lv' := [(4, .int v1), (0, .ref x0), (1, .ref x1), (2, .int x2), (6, .int x6)]) hx hb dX5_readRank_106 hl (by decide) rfl (fun ls hl => ?_)
  refine lv_iload hx hb dX5_readRank_108 (lv_at hl 4 rfl) ?_
  refine lv_istore_n (lv' := [(3, .int x6), (4, .int v1), (0, .ref x0), (1, .ref x1), (2, .int x2), (6, .int x6)]) hx hb dX5_readRank_110 rfl hl (by decide) rfl (fun ls hl => ?_)
  refine lv_aload_n hx hb dX5_readRank_111 rfl (lv_at hl 2 rfl) ?_
  refine lv_dup hx hb dX5_readRank_112 rfl ?_
  obtain ⟨ca, hf⟩ := m_chkE hf
  refine z_get (k := 5) (j := 1) (C := RX5) (T := TX5) (N := 2) (fl := zf_5) (v := .int (zI S 1 x0)) X hw_X5_readRank_5 hM rfl zc_5 ca (by decide) fl_X5_readRank_5_1 rfl dX5_readRank_113 ?_
  clear ca
  refine lv_iconst (v := (1 : Int32)) hx hb dX5_readRank_116 (by decide) ?_
  refine lv_iadd hx hb dX5_readRank_117 ?_
  obtain ⟨v2, ev, hf⟩ := m_bndE hf
  refine m_top ev ?_
  clear ev
  obtain ⟨ca, hf⟩ := m_chkE hf
  refine z_putI (k := 5) (j := 1) (C := RX5) (T := TX5) (N := 2) (fl := zf_5) (ty := .int) X hw_X5_readRank_5 tyX5_ok nmX5 hM rfl zc_5 ca (by decide) fl_X5_readRank_5_1 rfl (tyX5_ok 1 (by decide)) rfl rfl zi_5_1 (Nat.le_of_ble_eq_true rfl) dX5_readRank_118 (fun H locs hM => ?_)
  clear ca
  obtain ⟨S3, ev, hf⟩ := m_bndE hf
  replace hM := z_hS hM ev
  clear ev
  refine lv_goto (tgt := 5) hx hb dX5_readRank_121 (by decide) ?_
  exact hself5 x0 x1 x2 x6 v1 _ _ _ _ hf hM (lv_sub hl [2, 3, 4, 0, 1] rfl)
def f_X5_readRank_89 (self5 : Nat → Nat → Int32 → Int32 → Int32 → ZS → Option (Int32 × ZS)) (x0 : Nat) (x1 : Nat) (x2 : Int32) (x4 : Int32) (x5 : Int32) (x6 : Int32) (S : ZS) : Option (Int32 × ZS) :=
  m_if (x6 = 0) (
  f_X5_readRank_105 self5 x0 x1 x2 x6 (1 : Int32) x4 S
  ) (
  m_bnd (x5 - (48 : Int32)) (fun v1 =>
  f_X5_readRank_105 self5 x0 x1 x2 x6 v1 x4 S)
  )

set_option maxRecDepth 100000 in
set_option maxHeartbeats 4000000 in
theorem w_X5_readRank_89 {p : Program} {l : Launch} {e : Env} {s : State} {m : MethodId} {args : Array Value} {below : List Frame} {meth : Method} {c : Code} {Q : State → Prop} {D : va_G} {y : Nat → ClassId} {A0 : Nat → Prop} {o : Int32 × ZS} (X : CallFix p m c cX5_readRank 8 s args wsX5_readRank RX5) (hret : zRi p l e ({ frames := 4, cells := 0, slots := 0, locals := 91 } : Room) s m args below meth c Q cX5_readRank D y A0 .boolean o) {self5 : Nat → Nat → Int32 → Int32 → Int32 → ZS → Option (Int32 × ZS)} (hself5 : ∀ (x0 : Nat) (x1 : Nat) (x2 : Int32) (x3 : Int32) (x4 : Int32) (S : ZS) (H : Heap) (locs : List Loc) (ls : Array Slot), self5 x0 x1 x2 x3 x4 S = some o → zH D y A0 s H locs S → lv_has ls 8 [(0, .ref x0), (1, .ref x1), (2, .int x2), (3, .int x3), (4, .int x4)] → W p l e ({ frames := 4, cells := 0, slots := 0, locals := 91 } : Room) s m args below meth c H locs 0 0 Q (F0 m 5 ls [])) {x0 : Nat} {x1 : Nat} {x2 : Int32} {x4 : Int32} {x5 : Int32} {x6 : Int32} {S : ZS} {H : Heap} {locs : List Loc} {ls : Array Slot} (hf : f_X5_readRank_89 self5 x0 x1 x2 x4 x5 x6 S = some o) (hM : zH D y A0 s H locs S) (hl : lv_has ls 8 [(0, .ref x0), (1, .ref x1), (2, .int x2), (4, .int x4), (5, .int x5), (6, .int x6)]) : W p l e ({ frames := 4, cells := 0, slots := 0, locals := 91 } : Room) s m args below meth c H locs 0 0 Q (F0 m 89 ls []) := by
  obtain ⟨hx, hb, hml, hown, hts⟩ := id X
  unfold f_X5_readRank_89 at hf
  refine lv_iload hx hb dX5_readRank_89 (lv_at hl 3 rfl) ?_
  refine lv_iload hx hb dX5_readRank_91 (lv_at hl 5 rfl) ?_
  refine lv_if_eq (tgt := 104) hx hb dX5_readRank_93 (by decide) (fun cc1 => ?_) (fun cc1 => ?_)
  · replace hf := m_ifT hf cc1
    refine lv_iconst (v := (1 : Int32)) hx hb dX5_readRank_104 (by decide) ?_
    exact w_X5_readRank_105 (x0 := x0) (x1 := x1) (x2 := x2) (x6 := x6) (t0 := (1 : Int32)) (t1 := x4) X hret hself5 hf hM (lv_sub hl [0, 1, 2, 5] rfl)
  · replace hf := m_ifF hf cc1
    refine lv_iload hx hb dX5_readRank_96 (lv_at hl 4 rfl) ?_
    refine lv_bipush (v := (48 : Int32)) hx hb dX5_readRank_98 (by decide) ?_
    refine lv_isub hx hb dX5_readRank_100 ?_
    obtain ⟨v1, ev, hf⟩ := m_bndE hf
    refine m_top ev ?_
    clear ev
    refine lv_goto (tgt := 105) hx hb dX5_readRank_101 (by decide) ?_
    exact w_X5_readRank_105 (x0 := x0) (x1 := x1) (x2 := x2) (x6 := x6) (t0 := v1) (t1 := x4) X hret hself5 hf hM (lv_sub hl [0, 1, 2, 5] rfl)
def f_X5_readRank_74 (self5 : Nat → Nat → Int32 → Int32 → Int32 → ZS → Option (Int32 × ZS)) (x0 : Nat) (x1 : Nat) (x2 : Int32) (x4 : Int32) (x5 : Int32) (x6 : Int32) (x7 : Int32) (S : ZS) : Option (Int32 × ZS) :=
  m_if (x6 = 0) (
  m_bnd (x2 + x4) (fun v1 =>
  m_chk (x1 ∈ zL S ∧ zK S x1 = 0) (
  m_cal (f_X0_put x1 v1 x7 S) (fun o2 =>
  f_X5_readRank_89 self5 x0 x1 x2 x4 x5 x6 o2.2)))
  ) (
  f_X5_readRank_89 self5 x0 x1 x2 x4 x5 x6 S
  )

set_option maxRecDepth 100000 in
set_option maxHeartbeats 4000000 in
theorem w_X5_readRank_74 {p : Program} {l : Launch} {e : Env} {s : State} {m : MethodId} {args : Array Value} {below : List Frame} {meth : Method} {c : Code} {Q : State → Prop} {D : va_G} {y : Nat → ClassId} {A0 : Nat → Prop} {o : Int32 × ZS} (X : CallFix p m c cX5_readRank 8 s args wsX5_readRank RX5) (hret : zRi p l e ({ frames := 4, cells := 0, slots := 0, locals := 91 } : Room) s m args below meth c Q cX5_readRank D y A0 .boolean o) {self5 : Nat → Nat → Int32 → Int32 → Int32 → ZS → Option (Int32 × ZS)} (hself5 : ∀ (x0 : Nat) (x1 : Nat) (x2 : Int32) (x3 : Int32) (x4 : Int32) (S : ZS) (H : Heap) (locs : List Loc) (ls : Array Slot), self5 x0 x1 x2 x3 x4 S = some o → zH D y A0 s H locs S → lv_has ls 8 [(0, .ref x0), (1, .ref x1), (2, .int x2), (3, .int x3), (4, .int x4)] → W p l e ({ frames := 4, cells := 0, slots := 0, locals := 91 } : Room) s m args below meth c H locs 0 0 Q (F0 m 5 ls [])) {x0 : Nat} {x1 : Nat} {x2 : Int32} {x4 : Int32} {x5 : Int32} {x6 : Int32} {x7 : Int32} {S : ZS} {H : Heap} {locs : List Loc} {ls : Array Slot} (hf : f_X5_readRank_74 self5 x0 x1 x2 x4 x5 x6 x7 S = some o) (hM : zH D y A0 s H locs S) (hl : lv_has ls 8 [(0, .ref x0), (1, .ref x1), (2, .int x2), (4, .int x4), (5, .int x5), (6, .int x6), (7, .int x7)]) : W p l e ({ frames := 4, cells := 0, slots := 0, locals := 91 } : Room) s m args below meth c H locs 0 0 Q (F0 m 74 ls []) := by
  obtain ⟨hx, hb, hml, hown, hts⟩ := id X
  unfold f_X5_readRank_74 at hf
  refine lv_iload hx hb dX5_readRank_74 (lv_at hl 5 rfl) ?_
  refine lv_if_ne (tgt := 89) hx hb dX5_readRank_76 (by decide) (fun cc1 => ?_) (fun cc1 => ?_)
  · replace hf := m_ifF hf cc1
    exact w_X5_readRank_89 (x0 := x0) (x1 := x1) (x2 := x2) (x4 := x4) (x5 := x5) (x6 := x6) X hret hself5 hf hM (lv_sub hl [0, 1, 2, 3, 4, 5] rfl)
  · replace hf := m_ifT hf cc1
    refine lv_aload_n hx hb dX5_readRank_79 rfl (lv_at hl 1 rfl) ?_
    refine lv_iload_n hx hb dX5_readRank_80 rfl (lv_at hl 2 rfl) ?_
    refine lv_iload hx hb dX5_readRank_81 (lv_at hl 3 rfl) ?_
    refine lv_iadd hx hb dX5_readRank_83 ?_
    obtain ⟨v1, ev, hf⟩ := m_bndE hf
    refine m_top ev ?_
    clear ev
    refine lv_iload hx hb dX5_readRank_84 (lv_at hl 6 rfl) ?_
    obtain ⟨ca, hf⟩ := m_chkE hf
    obtain ⟨o2, ho, hf⟩ := m_calE hf
    refine z_callVv (k := 0) (C := RX0) (T := TX0) (N := 7) (fl := zf_0) X hM rfl zc_0 ca (c_X0_put ho) gX5_readRank_X0_put rfl ⟨rfl, rfl⟩ hd_X0_put ⟨Nat.le_of_ble_eq_true rfl, Nat.le_of_ble_eq_true rfl⟩ rfl hl.1 rfl (Nat.le_of_ble_eq_true rfl) dX5_readRank_86 (fun H locs hM => ?_)
    clear ho
    exact w_X5_readRank_89 (x0 := x0) (x1 := x1) (x2 := x2) (x4 := x4) (x5 := x5) (x6 := x6) X hret hself5 hf hM (lv_sub hl [0, 1, 2, 3, 4, 5] rfl)
def f_X5_readRank_72 (S : ZS) : Option (Int32 × ZS) :=
  m_chk (vp_nar .boolean (0 : Int32) = (0 : Int32)) (some ((0 : Int32), S))

set_option maxRecDepth 100000 in
set_option maxHeartbeats 4000000 in
theorem w_X5_readRank_72 {p : Program} {l : Launch} {e : Env} {s : State} {m : MethodId} {args : Array Value} {below : List Frame} {meth : Method} {c : Code} {Q : State → Prop} {D : va_G} {y : Nat → ClassId} {A0 : Nat → Prop} {o : Int32 × ZS} (X : CallFix p m c cX5_readRank 8 s args wsX5_readRank RX5) (hret : zRi p l e ({ frames := 4, cells := 0, slots := 0, locals := 91 } : Room) s m args below meth c Q cX5_readRank D y A0 .boolean o) {S : ZS} {H : Heap} {locs : List Loc} {ls : Array Slot} (hf : f_X5_readRank_72  S = some o) (hM : zH D y A0 s H locs S) (hl : lv_has ls 8 []) : W p l e ({ frames := 4, cells := 0, slots := 0, locals := 91 } : Room) s m args below meth c H locs 0 0 Q (F0 m 72 ls []) := by
  obtain ⟨hx, hb, hml, hown, hts⟩ := id X
  unfold f_X5_readRank_72 at hf
  refine lv_iconst (v := (0 : Int32)) hx hb dX5_readRank_72 (by decide) ?_
  obtain ⟨cd, hf⟩ := m_chkE hf
  cases hf
  exact hret H locs _ ls hM (m_nb cd) dX5_readRank_73
def f_X5_readRank_53 (self5 : Nat → Nat → Int32 → Int32 → Int32 → ZS → Option (Int32 × ZS)) (x0 : Nat) (x1 : Nat) (x2 : Int32) (x3 : Int32) (x4 : Int32) (x5 : Int32) (x6 : Int32) (t0 : Int32) (S : ZS) : Option (Int32 × ZS) :=
  m_if (x6 = 0) (
  m_if (t0 = 0) (
  f_X5_readRank_72  S
  ) (
  f_X5_readRank_74 self5 x0 x1 x2 x4 x5 x6 t0 S
  )
  ) (
  m_if (x3 = 0) (
  f_X5_readRank_74 self5 x0 x1 x2 x4 x5 x6 t0 S
  ) (
  f_X5_readRank_72  S
  )
  )

set_option maxRecDepth 100000 in
set_option maxHeartbeats 4000000 in
theorem w_X5_readRank_53 {p : Program} {l : Launch} {e : Env} {s : State} {m : MethodId} {args : Array Value} {below : List Frame} {meth : Method} {c : Code} {Q : State → Prop} {D : va_G} {y : Nat → ClassId} {A0 : Nat → Prop} {o : Int32 × ZS} (X : CallFix p m c cX5_readRank 8 s args wsX5_readRank RX5) (hret : zRi p l e ({ frames := 4, cells := 0, slots := 0, locals := 91 } : Room) s m args below meth c Q cX5_readRank D y A0 .boolean o) {self5 : Nat → Nat → Int32 → Int32 → Int32 → ZS → Option (Int32 × ZS)} (hself5 : ∀ (x0 : Nat) (x1 : Nat) (x2 : Int32) (x3 : Int32) (x4 : Int32) (S : ZS) (H : Heap) (locs : List Loc) (ls : Array Slot), self5 x0 x1 x2 x3 x4 S = some o → zH D y A0 s H locs S → lv_has ls 8 [(0, .ref x0), (1, .ref x1), (2, .int x2), (3, .int x3), (4, .int x4)] → W p l e ({ frames := 4, cells := 0, slots := 0, locals := 91 } : Room) s m args below meth c H locs 0 0 Q (F0 m 5 ls [])) {x0 : Nat} {x1 : Nat} {x2 : Int32} {x3 : Int32} {x4 : Int32} {x5 : Int32} {x6 : Int32} {t0 : Int32} {S : ZS} {H : Heap} {locs : List Loc} {ls : Array Slot} (hf : f_X5_readRank_53 self5 x0 x1 x2 x3 x4 x5 x6 t0 S = some o) (hM : zH D y A0 s H locs S) (hl : lv_has ls 8 [(0, .ref x0), (1, .ref x1), (2, .int x2), (3, .int x3), (4, .int x4), (5, .int x5), (6, .int x6)]) : W p l e ({ frames := 4, cells := 0, slots := 0, locals := 91 } : Room) s m args below meth c H locs 0 0 Q (F0 m 53 ls [.int t0]) := by
  obtain ⟨hx, hb, hml, hown, hts⟩ := id X
  unfold f_X5_readRank_53 at hf
  refine lv_istore (lv' := [(7, .int t0), (0, .ref x0), (1, .ref x1), (2, .int x2), (3, .int x3), (4, .int x4), (5, .int x5), (6, .int x6)]) hx hb dX5_readRank_53 hl (by decide) rfl (fun ls hl => ?_)
  refine lv_iload hx hb dX5_readRank_55 (lv_at hl 7 rfl) ?_
  refine lv_if_eq (tgt := 67) hx hb dX5_readRank_57 (by decide) (fun cc1 => ?_) (fun cc1 => ?_)
  · replace hf := m_ifT hf cc1
    refine lv_iload hx hb dX5_readRank_67 (lv_at hl 0 rfl) ?_
    refine lv_if_ne (tgt := 74) hx hb dX5_readRank_69 (by decide) (fun cc1 => ?_) (fun cc1 => ?_)
    · replace hf := m_ifF hf cc1
      exact w_X5_readRank_74 (x0 := x0) (x1 := x1) (x2 := x2) (x4 := x4) (x5 := x5) (x6 := x6) (x7 := t0) X hret hself5 hf hM (lv_sub hl [1, 2, 3, 5, 6, 7, 0] rfl)
    · replace hf := m_ifT hf cc1
      exact w_X5_readRank_72 X hret hf hM (lv_sub hl [] rfl)
  · replace hf := m_ifF hf cc1
    refine lv_iload_n hx hb dX5_readRank_60 rfl (lv_at hl 4 rfl) ?_
    refine lv_if_eq (tgt := 74) hx hb dX5_readRank_61 (by decide) (fun cc1 => ?_) (fun cc1 => ?_)
    · replace hf := m_ifT hf cc1
      exact w_X5_readRank_74 (x0 := x0) (x1 := x1) (x2 := x2) (x4 := x4) (x5 := x5) (x6 := x6) (x7 := t0) X hret hself5 hf hM (lv_sub hl [1, 2, 3, 5, 6, 7, 0] rfl)
    · replace hf := m_ifF hf cc1
      refine lv_goto (tgt := 72) hx hb dX5_readRank_64 (by decide) ?_
      exact w_X5_readRank_72 X hret hf hM (lv_sub hl [] rfl)
def f_X5_readRank_5s (self5 : Nat → Nat → Int32 → Int32 → Int32 → ZS → Option (Int32 × ZS)) (x0 : Nat) (x1 : Nat) (x2 : Int32) (x3 : Int32) (x4 : Int32) (S : ZS) : Option (Int32 × ZS) :=
  m_if ((8 : Int32) ≤ x4) (
  m_if (x4 = (8 : Int32)) (
  f_X5_readRank_136 (1 : Int32) S
  ) (
  f_X5_readRank_136 (0 : Int32) S
  )
  ) (
  m_chk (x0 ∈ zL S ∧ zK S x0 = 5) (
  m_cal (zP S 0 x0) (fun b1 =>
  m_chk (x0 ∈ zL S ∧ zK S x0 = 5) (
  m_chk (b1 ∈ zL S ∧ zK S b1 = 6) (
  m_cal (f_X6_at b1 (zI S 1 x0) S) (fun o2 =>
  m_cal (f_X11_isRank o2.1 o2.2) (fun o3 =>
  m_cal (f_X11_isLetter o2.1 o3.2) (fun o4 =>
  m_if (o4.1 = 0) (
  f_X5_readRank_53 self5 x0 x1 x2 x3 x4 o2.1 o3.1 (0 : Int32) o4.2
  ) (
  m_chk (1 < zSn) (
  m_cal (f_J0_indexOf_0f7a4 1 o2.1 o4.2) (fun o5 =>
  m_bnd (o5.1 + (1 : Int32)) (fun v6 =>
  f_X5_readRank_53 self5 x0 x1 x2 x3 x4 o2.1 o3.1 v6 o5.2)))
  ))))))))
  )

set_option maxRecDepth 100000 in
set_option maxHeartbeats 4000000 in
theorem ws_X5_readRank_5 {p : Program} {l : Launch} {e : Env} {s : State} {m : MethodId} {args : Array Value} {below : List Frame} {meth : Method} {c : Code} {Q : State → Prop} {D : va_G} {y : Nat → ClassId} {A0 : Nat → Prop} {o : Int32 × ZS} (X : CallFix p m c cX5_readRank 8 s args wsX5_readRank RX5) (hret : zRi p l e ({ frames := 4, cells := 0, slots := 0, locals := 91 } : Room) s m args below meth c Q cX5_readRank D y A0 .boolean o) {self5 : Nat → Nat → Int32 → Int32 → Int32 → ZS → Option (Int32 × ZS)} (hself5 : ∀ (x0 : Nat) (x1 : Nat) (x2 : Int32) (x3 : Int32) (x4 : Int32) (S : ZS) (H : Heap) (locs : List Loc) (ls : Array Slot), self5 x0 x1 x2 x3 x4 S = some o → zH D y A0 s H locs S → lv_has ls 8 [(0, .ref x0), (1, .ref x1), (2, .int x2), (3, .int x3), (4, .int x4)] → W p l e ({ frames := 4, cells := 0, slots := 0, locals := 91 } : Room) s m args below meth c H locs 0 0 Q (F0 m 5 ls [])) {x0 : Nat} {x1 : Nat} {x2 : Int32} {x3 : Int32} {x4 : Int32} {S : ZS} {H : Heap} {locs : List Loc} {ls : Array Slot} (hf : f_X5_readRank_5s self5 x0 x1 x2 x3 x4 S = some o) (hM : zH D y A0 s H locs S) (hl : lv_has ls 8 [(0, .ref x0), (1, .ref x1), (2, .int x2), (3, .int x3), (4, .int x4)]) : W p l e ({ frames := 4, cells := 0, slots := 0, locals := 91 } : Room) s m args below meth c H locs 0 0 Q (F0 m 5 ls []) := by
  obtain ⟨hx, hb, hml, hown, hts⟩ := id X
  unfold f_X5_readRank_5s at hf
  refine lv_iload hx hb dX5_readRank_5 (lv_at hl 4 rfl) ?_
  refine lv_bipush (v := (8 : Int32)) hx hb dX5_readRank_7 (by decide) ?_
  refine lv_icmp_ge (tgt := 124) hx hb dX5_readRank_9 (by decide) (fun cc1 => ?_) (fun cc1 => ?_)
  · replace hf := m_ifT hf cc1
    refine lv_iload hx hb dX5_readRank_124 (lv_at hl 4 rfl) ?_
    refine lv_bipush (v := (8 : Int32)) hx hb dX5_readRank_126 (by decide) ?_
    refine lv_icmp_ne (tgt := 135) hx hb dX5_readRank_128 (by decide) (fun cc1 => ?_) (fun cc1 => ?_)
    · replace hf := m_ifF hf cc1
      refine lv_iconst (v := (0 : Int32)) hx hb dX5_readRank_135 (by decide) ?_
      exact w_X5_readRank_136 (t0 := (0 : Int32)) X hret hf hM (lv_sub hl [] rfl)
    · replace hf := m_ifT hf cc1
      refine lv_iconst (v := (1 : Int32)) hx hb dX5_readRank_131 (by decide) ?_
      refine lv_goto (tgt := 136) hx hb dX5_readRank_132 (by decide) ?_
      exact w_X5_readRank_136 (t0 := (1 : Int32)) X hret hf hM (lv_sub hl [] rfl)
  · replace hf := m_ifF hf cc1
    refine lv_aload_n hx hb dX5_readRank_12 rfl (lv_at hl 0 rfl) ?_
    obtain ⟨ca, hf⟩ := m_chkE hf
    refine z_get (k := 5) (j := 0) (C := RX5) (T := TX5) (N := 2) (fl := zf_5) (v := va_rf (zP S 0 x0)) X hw_X5_readRank_5 hM rfl zc_5 ca (by decide) fl_X5_readRank_5_0 rfl dX5_readRank_13 ?_
    clear ca
    obtain ⟨b1, hb9, hf⟩ := m_calE hf
    refine z_topr hb9 ?_
    clear hb9
    refine lv_aload_n hx hb dX5_readRank_16 rfl (lv_at hl 0 rfl) ?_
    obtain ⟨ca, hf⟩ := m_chkE hf
    refine z_get (k := 5) (j := 1) (C := RX5) (T := TX5) (N := 2) (fl := zf_5) (v := .int (zI S 1 x0)) X hw_X5_readRank_5 hM rfl zc_5 ca (by decide) fl_X5_readRank_5_1 rfl dX5_readRank_17 ?_
    clear ca
    obtain ⟨ca, hf⟩ := m_chkE hf
    obtain ⟨o2, ho, hf⟩ := m_calE hf
    refine z_callVi (k := 6) (C := RX6) (T := TX6) (N := 2) (fl := zf_6) X hM rfl zc_6 ca (c_X6_at ho) gX5_readRank_X6_at rfl ⟨rfl, rfl⟩ hd_X6_at ⟨Nat.le_of_ble_eq_true rfl, Nat.le_of_ble_eq_true rfl⟩ rfl hl.1 rfl (Nat.le_of_ble_eq_true rfl) dX5_readRank_20 (fun H locs hM => ?_)
    clear ho
    refine lv_istore (lv' := [(5, .int o2.1), (0, .ref x0), (1, .ref x1), (2, .int x2), (3, .int x3), (4, .int x4)]) hx hb dX5_readRank_23 hl (by decide) rfl (fun ls hl => ?_)
    refine lv_iload hx hb dX5_readRank_25 (lv_at hl 0 rfl) ?_
    obtain ⟨o3, ho, hf⟩ := m_calE hf
    refine z_callSNi X hM (c_X11_isRank ho) gX5_readRank_X11_isRank_n70 nn_X5_readRank_70.1.1 nn_X5_readRank_70.1.2 nn_X5_readRank_70.2 rfl ⟨rfl, rfl⟩ hd_X11_isRank ⟨Nat.le_of_ble_eq_true rfl, Nat.le_of_ble_eq_true rfl⟩ rfl hl.1 rfl (Nat.le_of_ble_eq_true rfl) dX5_readRank_27 (fun H locs hM => ?_)
    clear ho
    refine lv_istore (lv' := [(6, .int o3.1), (5, .int o2.1), (0, .ref x0), (1, .ref x1), (2, .int x2), (3, .int x3), (4, .int x4)]) hx hb dX5_readRank_30 hl (by decide) rfl (fun ls hl => ?_)
    refine lv_iload hx hb dX5_readRank_32 (lv_at hl 1 rfl) ?_
    obtain ⟨o4, ho, hf⟩ := m_calE hf
    refine z_callSNi X hM (c_X11_isLetter ho) gX5_readRank_X11_isLetter_n73 nn_X5_readRank_73.1.1 nn_X5_readRank_73.1.2 nn_X5_readRank_73.2 rfl ⟨rfl, rfl⟩ hd_X11_isLetter ⟨Nat.le_of_ble_eq_true rfl, Nat.le_of_ble_eq_true rfl⟩ rfl hl.1 rfl (Nat.le_of_ble_eq_true rfl) dX5_readRank_34 (fun H locs hM => ?_)
    clear ho
    refine lv_if_eq (tgt := 52) hx hb dX5_readRank_37 (by decide) (fun cc1 => ?_) (fun cc1 => ?_)
    · replace hf := m_ifT hf cc1
      refine lv_iconst (v := (0 : Int32)) hx hb dX5_readRank_52 (by decide) ?_
      exact w_X5_readRank_53 (x0 := x0) (x1 := x1) (x2 := x2) (x3 := x3) (x4 := x4) (x5 := o2.1) (x6 := o3.1) (t0 := (0 : Int32)) X hret hself5 hf hM (lv_sub hl [2, 3, 4, 5, 6, 1, 0] rfl)
    · replace hf := m_ifF hf cc1
      refine z_ldcS X hM sr_X5_readRank_76 dX5_readRank_40 ?_
      refine lv_iload hx hb dX5_readRank_42 (lv_at hl 1 rfl) ?_
      obtain ⟨ca, hf⟩ := m_chkE hf
      obtain ⟨o5, ho, hf⟩ := m_calE hf
      refine z_callTi X hM ca (c_J0_indexOf_0f7a4 ho) gX5_readRank_J0_indexOf_0f7a4 rfl ⟨rfl, rfl⟩ hd_J0_indexOf_0f7a4 ⟨Nat.le_of_ble_eq_true rfl, Nat.le_of_ble_eq_true rfl⟩ rfl hl.1 rfl (Nat.le_of_ble_eq_true rfl) dX5_readRank_44 (fun H locs hM => ?_)
      clear ho
      refine lv_iconst (v := (1 : Int32)) hx hb dX5_readRank_47 (by decide) ?_
      refine lv_iadd hx hb dX5_readRank_48 ?_
      obtain ⟨v6, ev, hf⟩ := m_bndE hf
      refine m_top ev ?_
      clear ev
      refine lv_goto (tgt := 53) hx hb dX5_readRank_49 (by decide) ?_
      exact w_X5_readRank_53 (x0 := x0) (x1 := x1) (x2 := x2) (x3 := x3) (x4 := x4) (x5 := o2.1) (x6 := o3.1) (t0 := v6) X hret hself5 hf hM (lv_sub hl [2, 3, 4, 5, 6, 1, 0] rfl)
def f_X5_readRank_5 : Nat → Nat → Nat → Int32 → Int32 → Int32 → ZS → Option (Int32 × ZS)
  | 0 => fun _ _ _ _ _ _ => none
  | n + 1 => f_X5_readRank_5s (f_X5_readRank_5 n)
theorem w_X5_readRank_5 {p : Program} {l : Launch} {e : Env} {s : State} {m : MethodId} {args : Array Value} {below : List Frame} {meth : Method} {c : Code} {Q : State → Prop} {D : va_G} {y : Nat → ClassId} {A0 : Nat → Prop} {o : Int32 × ZS} (X : CallFix p m c cX5_readRank 8 s args wsX5_readRank RX5) (hret : zRi p l e ({ frames := 4, cells := 0, slots := 0, locals := 91 } : Room) s m args below meth c Q cX5_readRank D y A0 .boolean o) (n : Nat) : ∀ (x0 : Nat) (x1 : Nat) (x2 : Int32) (x3 : Int32) (x4 : Int32) (S : ZS) (H : Heap) (locs : List Loc) (ls : Array Slot), f_X5_readRank_5 n x0 x1 x2 x3 x4 S = some o → zH D y A0 s H locs S → lv_has ls 8 [(0, .ref x0), (1, .ref x1), (2, .int x2), (3, .int x3), (4, .int x4)] → W p l e ({ frames := 4, cells := 0, slots := 0, locals := 91 } : Room) s m args below meth c H locs 0 0 Q (F0 m 5 ls []) := by
  induction n with
  | zero => intro x0 x1 x2 x3 x4 S H locs ls hf; cases hf
  | succ n ih => intro x0 x1 x2 x3 x4 S H locs ls hf hM hl; exact ws_X5_readRank_5 X hret (self5 := f_X5_readRank_5 n) ih hf hM hl
def f_X5_readRank_0 (x0 : Nat) (x1 : Nat) (x2 : Int32) (S : ZS) : Option (Int32 × ZS) :=
  f_X5_readRank_5 mFuel x0 x1 x2 (0 : Int32) (0 : Int32) S

set_option maxRecDepth 100000 in
set_option maxHeartbeats 4000000 in
theorem w_X5_readRank_0 {p : Program} {l : Launch} {e : Env} {s : State} {m : MethodId} {args : Array Value} {below : List Frame} {meth : Method} {c : Code} {Q : State → Prop} {D : va_G} {y : Nat → ClassId} {A0 : Nat → Prop} {o : Int32 × ZS} (X : CallFix p m c cX5_readRank 8 s args wsX5_readRank RX5) (hret : zRi p l e ({ frames := 4, cells := 0, slots := 0, locals := 91 } : Room) s m args below meth c Q cX5_readRank D y A0 .boolean o) {x0 : Nat} {x1 : Nat} {x2 : Int32} {S : ZS} {H : Heap} {locs : List Loc} {ls : Array Slot} (hf : f_X5_readRank_0 x0 x1 x2 S = some o) (hM : zH D y A0 s H locs S) (hl : lv_has ls 8 [(0, .ref x0), (1, .ref x1), (2, .int x2)]) : W p l e ({ frames := 4, cells := 0, slots := 0, locals := 91 } : Room) s m args below meth c H locs 0 0 Q (F0 m 0 ls []) := by
  obtain ⟨hx, hb, hml, hown, hts⟩ := id X
  unfold f_X5_readRank_0 at hf
  refine lv_iconst (v := (0 : Int32)) hx hb dX5_readRank_0 (by decide) ?_
  refine lv_istore_n (lv' := [(3, .int (0 : Int32)), (0, .ref x0), (1, .ref x1), (2, .int x2)]) hx hb dX5_readRank_1 rfl hl (by decide) rfl (fun ls hl => ?_)
  refine lv_iconst (v := (0 : Int32)) hx hb dX5_readRank_2 (by decide) ?_
  refine lv_istore (lv' := [(4, .int (0 : Int32)), (3, .int (0 : Int32)), (0, .ref x0), (1, .ref x1), (2, .int x2)]) hx hb dX5_readRank_3 hl (by decide) rfl (fun ls hl => ?_)
  exact w_X5_readRank_5 X hret _ x0 x1 x2 (0 : Int32) (0 : Int32) _ _ _ _ hf hM (lv_sub hl [2, 3, 4, 1, 0] rfl)
def f_X5_readRank (x0 : Nat) (x1 : Nat) (x2 : Int32) (S : ZS) : Option (Int32 × ZS) := f_X5_readRank_0 x0 x1 x2 S
theorem c_X5_readRank {l : Launch} {D : va_G} {y : Nat → ClassId} {x0 : Nat} {x1 : Nat} {x2 : Int32} {S : ZS} {o : Int32 × ZS} (hf : f_X5_readRank x0 x1 x2 S = some o) : zMi l yX5_readRank wsX5_readRank ({ frames := 4, cells := 0, slots := 0, locals := 91 } : Room) [.ref x0, .ref x1, .int x2] D y S o :=
  z_entryI (own := RX5) (cc := cX5_readRank) (maxL := 8) (by decide) rfl rfl (Nat.le_of_ble_eq_true rfl) (fun p e s m args below meth c A0 Q H locs ls X hret hM hl => w_X5_readRank_0 X hret hf hM (lv_sub hl [0, 1, 2] rfl))
theorem hd_X5_readRank : yX5_readRank.cls = RX5 ∧ yX5_readRank.cls ≠ "java/lang/invoke/MethodHandle" ∧ yX5_readRank.cls ≠ "java/lang/invoke/VarHandle" ∧ (parseMethodDescriptor yX5_readRank.desc).map (fun d => d.parameters.length) = some 2 := by decide +kernel
def f_X5_readMen_34 (S : ZS) : Option (Int32 × ZS) :=
  m_chk (vp_nar .boolean (0 : Int32) = (0 : Int32)) (some ((0 : Int32), S))

set_option maxRecDepth 100000 in
set_option maxHeartbeats 4000000 in
theorem w_X5_readMen_34 {p : Program} {l : Launch} {e : Env} {s : State} {m : MethodId} {args : Array Value} {below : List Frame} {meth : Method} {c : Code} {Q : State → Prop} {D : va_G} {y : Nat → ClassId} {A0 : Nat → Prop} {o : Int32 × ZS} (X : CallFix p m c cX5_readMen 3 s args wsX5_readMen RX5) (hret : zRi p l e ({ frames := 5, cells := 0, slots := 0, locals := 118 } : Room) s m args below meth c Q cX5_readMen D y A0 .boolean o) {S : ZS} {H : Heap} {locs : List Loc} {ls : Array Slot} (hf : f_X5_readMen_34  S = some o) (hM : zH D y A0 s H locs S) (hl : lv_has ls 3 []) : W p l e ({ frames := 5, cells := 0, slots := 0, locals := 118 } : Room) s m args below meth c H locs 0 0 Q (F0 m 34 ls []) := by
  obtain ⟨hx, hb, hml, hown, hts⟩ := id X
  unfold f_X5_readMen_34 at hf
  refine lv_iconst (v := (0 : Int32)) hx hb dX5_readMen_34 (by decide) ?_
  obtain ⟨cd, hf⟩ := m_chkE hf
  cases hf
  exact hret H locs _ ls hM (m_nb cd) dX5_readMen_35
def f_X5_readMen_22 (self3 : Nat → Nat → Int32 → ZS → Option (Int32 × ZS)) (x0 : Nat) (x1 : Nat) (x2 : Int32) (S : ZS) : Option (Int32 × ZS) :=
  m_bnd ((8 : Int32) * x2) (fun v1 =>
  m_chk (x0 ∈ zL S ∧ zK S x0 = 5) (
  m_cal (f_X5_readRank x0 x1 v1 S) (fun o2 =>
  m_if (o2.1 = 0) (
  f_X5_readMen_34  o2.2
  ) (
  m_bnd (x2 + (-1 : Int32)) (fun v3 =>
  self3 x0 x1 v3 o2.2)
  ))))

set_option maxRecDepth 100000 in
set_option maxHeartbeats 4000000 in
theorem w_X5_readMen_22 {p : Program} {l : Launch} {e : Env} {s : State} {m : MethodId} {args : Array Value} {below : List Frame} {meth : Method} {c : Code} {Q : State → Prop} {D : va_G} {y : Nat → ClassId} {A0 : Nat → Prop} {o : Int32 × ZS} (X : CallFix p m c cX5_readMen 3 s args wsX5_readMen RX5) (hret : zRi p l e ({ frames := 5, cells := 0, slots := 0, locals := 118 } : Room) s m args below meth c Q cX5_readMen D y A0 .boolean o) {self3 : Nat → Nat → Int32 → ZS → Option (Int32 × ZS)} (hself3 : ∀ (x0 : Nat) (x1 : Nat) (x2 : Int32) (S : ZS) (H : Heap) (locs : List Loc) (ls : Array Slot), self3 x0 x1 x2 S = some o → zH D y A0 s H locs S → lv_has ls 3 [(0, .ref x0), (1, .ref x1), (2, .int x2)] → W p l e ({ frames := 5, cells := 0, slots := 0, locals := 118 } : Room) s m args below meth c H locs 0 0 Q (F0 m 3 ls [])) {x0 : Nat} {x1 : Nat} {x2 : Int32} {S : ZS} {H : Heap} {locs : List Loc} {ls : Array Slot} (hf : f_X5_readMen_22 self3 x0 x1 x2 S = some o) (hM : zH D y A0 s H locs S) (hl : lv_has ls 3 [(0, .ref x0), (1, .ref x1), (2, .int x2)]) : W p l e ({ frames := 5, cells := 0, slots := 0, locals := 118 } : Room) s m args below meth c H locs 0 0 Q (F0 m 22 ls []) := by
  obtain ⟨hx, hb, hml, hown, hts⟩ := id X
  unfold f_X5_readMen_22 at hf
  refine lv_aload_n hx hb dX5_readMen_22 rfl (lv_at hl 0 rfl) ?_
  refine lv_aload_n hx hb dX5_readMen_23 rfl (lv_at hl 1 rfl) ?_
  refine lv_bipush (v := (8 : Int32)) hx hb dX5_readMen_24 (by decide) ?_
  refine lv_iload_n hx hb dX5_readMen_26 rfl (lv_at hl 2 rfl) ?_
  refine lv_imul hx hb dX5_readMen_27 ?_
  obtain ⟨v1, ev, hf⟩ := m_bndE hf
  refine m_top ev ?_
  clear ev
  obtain ⟨ca, hf⟩ := m_chkE hf
  obtain ⟨o2, ho, hf⟩ := m_calE hf
  refine z_callVi (k := 5) (C := RX5) (T := TX5) (N := 2) (fl := zf_5) X hM rfl zc_5 ca (c_X5_readRank ho) gX5_readMen_X5_readRank rfl ⟨rfl, rfl⟩ hd_X5_readRank ⟨Nat.le_of_ble_eq_true rfl, Nat.le_of_ble_eq_true rfl⟩ rfl hl.1 rfl (Nat.le_of_ble_eq_true rfl) dX5_readMen_28 (fun H locs hM => ?_)
  clear ho
  refine lv_if_ne (tgt := 36) hx hb dX5_readMen_31 (by decide) (fun cc1 => ?_) (fun cc1 => ?_)
  · replace hf := m_ifF hf cc1
    obtain ⟨v3, ev, hf⟩ := m_bndE hf
    refine lv_iinc (v := v3) (lv' := [(2, .int v3), (0, .ref x0), (1, .ref x1)]) hx hb dX5_readMen_36 hl (k := 2) rfl (by rw [ev]; rfl) (by decide) rfl (fun ls hl => ?_)
    clear ev
    refine lv_goto (tgt := 3) hx hb dX5_readMen_39 (by decide) ?_
    exact hself3 x0 x1 v3 _ _ _ _ hf hM (lv_sub hl [1, 2, 0] rfl)
  · replace hf := m_ifT hf cc1
    exact w_X5_readMen_34 X hret hf hM (lv_sub hl [] rfl)
def f_X5_readMen_3s (self3 : Nat → Nat → Int32 → ZS → Option (Int32 × ZS)) (x0 : Nat) (x1 : Nat) (x2 : Int32) (S : ZS) : Option (Int32 × ZS) :=
  m_if (x2 < 0) (
  m_chk (vp_nar .boolean (1 : Int32) = (1 : Int32)) (some ((1 : Int32), S))
  ) (
  m_if ((7 : Int32) ≤ x2) (
  f_X5_readMen_22 self3 x0 x1 x2 S
  ) (
  m_chk (x0 ∈ zL S ∧ zK S x0 = 5) (
  m_cal (f_X5_skip x0 (47 : Int32) S) (fun o1 =>
  m_if (o1.1 = 0) (
  f_X5_readMen_34  o1.2
  ) (
  f_X5_readMen_22 self3 x0 x1 x2 o1.2
  )))
  )
  )

set_option maxRecDepth 100000 in
set_option maxHeartbeats 4000000 in
theorem ws_X5_readMen_3 {p : Program} {l : Launch} {e : Env} {s : State} {m : MethodId} {args : Array Value} {below : List Frame} {meth : Method} {c : Code} {Q : State → Prop} {D : va_G} {y : Nat → ClassId} {A0 : Nat → Prop} {o : Int32 × ZS} (X : CallFix p m c cX5_readMen 3 s args wsX5_readMen RX5) (hret : zRi p l e ({ frames := 5, cells := 0, slots := 0, locals := 118 } : Room) s m args below meth c Q cX5_readMen D y A0 .boolean o) {self3 : Nat → Nat → Int32 → ZS → Option (Int32 × ZS)} (hself3 : ∀ (x0 : Nat) (x1 : Nat) (x2 : Int32) (S : ZS) (H : Heap) (locs : List Loc) (ls : Array Slot), self3 x0 x1 x2 S = some o → zH D y A0 s H locs S → lv_has ls 3 [(0, .ref x0), (1, .ref x1), (2, .int x2)] → W p l e ({ frames := 5, cells := 0, slots := 0, locals := 118 } : Room) s m args below meth c H locs 0 0 Q (F0 m 3 ls [])) {x0 : Nat} {x1 : Nat} {x2 : Int32} {S : ZS} {H : Heap} {locs : List Loc} {ls : Array Slot} (hf : f_X5_readMen_3s self3 x0 x1 x2 S = some o) (hM : zH D y A0 s H locs S) (hl : lv_has ls 3 [(0, .ref x0), (1, .ref x1), (2, .int x2)]) : W p l e ({ frames := 5, cells := 0, slots := 0, locals := 118 } : Room) s m args below meth c H locs 0 0 Q (F0 m 3 ls []) := by
  obtain ⟨hx, hb, hml, hown, hts⟩ := id X
  unfold f_X5_readMen_3s at hf
  refine lv_iload_n hx hb dX5_readMen_3 rfl (lv_at hl 2 rfl) ?_
  refine lv_if_lt (tgt := 42) hx hb dX5_readMen_4 (by decide) (fun cc1 => ?_) (fun cc1 => ?_)
  · replace hf := m_ifT hf cc1
    refine lv_iconst (v := (1 : Int32)) hx hb dX5_readMen_42 (by decide) ?_
    obtain ⟨cd, hf⟩ := m_chkE hf
    cases hf
    exact hret H locs _ ls hM (m_nb cd) dX5_readMen_43
  · replace hf := m_ifF hf cc1
    refine lv_iload_n hx hb dX5_readMen_7 rfl (lv_at hl 2 rfl) ?_
    refine lv_bipush (v := (7 : Int32)) hx hb dX5_readMen_8 (by decide) ?_
    refine lv_icmp_ge (tgt := 22) hx hb dX5_readMen_10 (by decide) (fun cc1 => ?_) (fun cc1 => ?_)
    · replace hf := m_ifT hf cc1
      exact w_X5_readMen_22 (x0 := x0) (x1 := x1) (x2 := x2) X hret hself3 hf hM (lv_sub hl [0, 1, 2] rfl)
    · replace hf := m_ifF hf cc1
      refine lv_aload_n hx hb dX5_readMen_13 rfl (lv_at hl 0 rfl) ?_
      refine lv_bipush (v := (47 : Int32)) hx hb dX5_readMen_14 (by decide) ?_
      obtain ⟨ca, hf⟩ := m_chkE hf
      obtain ⟨o1, ho, hf⟩ := m_calE hf
      refine z_callVi (k := 5) (C := RX5) (T := TX5) (N := 2) (fl := zf_5) X hM rfl zc_5 ca (c_X5_skip ho) gX5_readMen_X5_skip rfl ⟨rfl, rfl⟩ hd_X5_skip ⟨Nat.le_of_ble_eq_true rfl, Nat.le_of_ble_eq_true rfl⟩ rfl hl.1 rfl (Nat.le_of_ble_eq_true rfl) dX5_readMen_16 (fun H locs hM => ?_)
      clear ho
      refine lv_if_eq (tgt := 34) hx hb dX5_readMen_19 (by decide) (fun cc1 => ?_) (fun cc1 => ?_)
      · replace hf := m_ifT hf cc1
        exact w_X5_readMen_34 X hret hf hM (lv_sub hl [] rfl)
      · replace hf := m_ifF hf cc1
        exact w_X5_readMen_22 (x0 := x0) (x1 := x1) (x2 := x2) X hret hself3 hf hM (lv_sub hl [0, 1, 2] rfl)
def f_X5_readMen_3 : Nat → Nat → Nat → Int32 → ZS → Option (Int32 × ZS)
  | 0 => fun _ _ _ _ => none
  | n + 1 => f_X5_readMen_3s (f_X5_readMen_3 n)
theorem w_X5_readMen_3 {p : Program} {l : Launch} {e : Env} {s : State} {m : MethodId} {args : Array Value} {below : List Frame} {meth : Method} {c : Code} {Q : State → Prop} {D : va_G} {y : Nat → ClassId} {A0 : Nat → Prop} {o : Int32 × ZS} (X : CallFix p m c cX5_readMen 3 s args wsX5_readMen RX5) (hret : zRi p l e ({ frames := 5, cells := 0, slots := 0, locals := 118 } : Room) s m args below meth c Q cX5_readMen D y A0 .boolean o) (n : Nat) : ∀ (x0 : Nat) (x1 : Nat) (x2 : Int32) (S : ZS) (H : Heap) (locs : List Loc) (ls : Array Slot), f_X5_readMen_3 n x0 x1 x2 S = some o → zH D y A0 s H locs S → lv_has ls 3 [(0, .ref x0), (1, .ref x1), (2, .int x2)] → W p l e ({ frames := 5, cells := 0, slots := 0, locals := 118 } : Room) s m args below meth c H locs 0 0 Q (F0 m 3 ls []) := by
  induction n with
  | zero => intro x0 x1 x2 S H locs ls hf; cases hf
  | succ n ih => intro x0 x1 x2 S H locs ls hf hM hl; exact ws_X5_readMen_3 X hret (self3 := f_X5_readMen_3 n) ih hf hM hl
def f_X5_readMen_0 (x0 : Nat) (x1 : Nat) (S : ZS) : Option (Int32 × ZS) :=
  f_X5_readMen_3 mFuel x0 x1 (7 : Int32) S

set_option maxRecDepth 100000 in
set_option maxHeartbeats 4000000 in
theorem w_X5_readMen_0 {p : Program} {l : Launch} {e : Env} {s : State} {m : MethodId} {args : Array Value} {below : List Frame} {meth : Method} {c : Code} {Q : State → Prop} {D : va_G} {y : Nat → ClassId} {A0 : Nat → Prop} {o : Int32 × ZS} (X : CallFix p m c cX5_readMen 3 s args wsX5_readMen RX5) (hret : zRi p l e ({ frames := 5, cells := 0, slots := 0, locals := 118 } : Room) s m args below meth c Q cX5_readMen D y A0 .boolean o) {x0 : Nat} {x1 : Nat} {S : ZS} {H : Heap} {locs : List Loc} {ls : Array Slot} (hf : f_X5_readMen_0 x0 x1 S = some o) (hM : zH D y A0 s H locs S) (hl : lv_has ls 3 [(0, .ref x0), (1, .ref x1)]) : W p l e ({ frames := 5, cells := 0, slots := 0, locals := 118 } : Room) s m args below meth c H locs 0 0 Q (F0 m 0 ls []) := by
  obtain ⟨hx, hb, hml, hown, hts⟩ := id X
  unfold f_X5_readMen_0 at hf
  refine lv_bipush (v := (7 : Int32)) hx hb dX5_readMen_0 (by decide) ?_
  refine lv_istore_n (lv' := [(2, .int (7 : Int32)), (0, .ref x0), (1, .ref x1)]) hx hb dX5_readMen_2 rfl hl (by decide) rfl (fun ls hl => ?_)
  exact w_X5_readMen_3 X hret _ x0 x1 (7 : Int32) _ _ _ _ hf hM (lv_sub hl [1, 2, 0] rfl)
def f_X5_readMen (x0 : Nat) (x1 : Nat) (S : ZS) : Option (Int32 × ZS) := f_X5_readMen_0 x0 x1 S
theorem c_X5_readMen {l : Launch} {D : va_G} {y : Nat → ClassId} {x0 : Nat} {x1 : Nat} {S : ZS} {o : Int32 × ZS} (hf : f_X5_readMen x0 x1 S = some o) : zMi l yX5_readMen wsX5_readMen ({ frames := 5, cells := 0, slots := 0, locals := 118 } : Room) [.ref x0, .ref x1] D y S o :=
  z_entryI (own := RX5) (cc := cX5_readMen) (maxL := 3) (by decide) rfl rfl (Nat.le_of_ble_eq_true rfl) (fun p e s m args below meth c A0 Q H locs ls X hret hM hl => w_X5_readMen_0 X hret hf hM (lv_sub hl [0, 1] rfl))
theorem hd_X5_readMen : yX5_readMen.cls = RX5 ∧ yX5_readMen.cls ≠ "java/lang/invoke/MethodHandle" ∧ yX5_readMen.cls ≠ "java/lang/invoke/VarHandle" ∧ (parseMethodDescriptor yX5_readMen.desc).map (fun d => d.parameters.length) = some 1 := by decide +kernel
theorem fl_X5_readSide_0_3 : Cond.fieldLink RX5 88 "MoveTexts$Board" "side" "I" ∈ wsX5_readSide := by decide +kernel
theorem fl_X5_readSide_5_0 : Cond.fieldLink RX5 12 "MoveTexts$PositionReader" "text" "LMoveTexts$Row;" ∈ wsX5_readSide := by decide +kernel
theorem fl_X5_readSide_5_1 : Cond.fieldLink RX5 18 "MoveTexts$PositionReader" "at" "I" ∈ wsX5_readSide := by decide +kernel
theorem hw_X5_readSide_0 : ∀ w ∈ wsX00, w ∈ wsX5_readSide := by decide +kernel
theorem hw_X5_readSide_5 : ∀ w ∈ wsX50, w ∈ wsX5_readSide := by decide +kernel
def f_X5_readSide_48 (t0 : Int32) (S : ZS) : Option (Int32 × ZS) :=
  m_chk (vp_nar .boolean t0 = t0) (some (t0, S))

set_option maxRecDepth 100000 in
set_option maxHeartbeats 4000000 in
theorem w_X5_readSide_48 {p : Program} {l : Launch} {e : Env} {s : State} {m : MethodId} {args : Array Value} {below : List Frame} {meth : Method} {c : Code} {Q : State → Prop} {D : va_G} {y : Nat → ClassId} {A0 : Nat → Prop} {o : Int32 × ZS} (X : CallFix p m c cX5_readSide 2 s args wsX5_readSide RX5) (hret : zRi p l e ({ frames := 2, cells := 0, slots := 0, locals := 42 } : Room) s m args below meth c Q cX5_readSide D y A0 .boolean o) {t0 : Int32} {S : ZS} {H : Heap} {locs : List Loc} {ls : Array Slot} (hf : f_X5_readSide_48 t0 S = some o) (hM : zH D y A0 s H locs S) (hl : lv_has ls 2 []) : W p l e ({ frames := 2, cells := 0, slots := 0, locals := 42 } : Room) s m args below meth c H locs 0 0 Q (F0 m 48 ls [.int t0]) := by
  obtain ⟨hx, hb, hml, hown, hts⟩ := id X
  unfold f_X5_readSide_48 at hf
  obtain ⟨cd, hf⟩ := m_chkE hf
  cases hf
  exact hret H locs _ ls hM (m_nb cd) dX5_readSide_48
def f_X5_readSide_43 (S : ZS) : Option (Int32 × ZS) :=
  f_X5_readSide_48 (1 : Int32) S

set_option maxRecDepth 100000 in
set_option maxHeartbeats 4000000 in
theorem w_X5_readSide_43 {p : Program} {l : Launch} {e : Env} {s : State} {m : MethodId} {args : Array Value} {below : List Frame} {meth : Method} {c : Code} {Q : State → Prop} {D : va_G} {y : Nat → ClassId} {A0 : Nat → Prop} {o : Int32 × ZS} (X : CallFix p m c cX5_readSide 2 s args wsX5_readSide RX5) (hret : zRi p l e ({ frames := 2, cells := 0, slots := 0, locals := 42 } : Room) s m args below meth c Q cX5_readSide D y A0 .boolean o) {S : ZS} {H : Heap} {locs : List Loc} {ls : Array Slot} (hf : f_X5_readSide_43  S = some o) (hM : zH D y A0 s H locs S) (hl : lv_has ls 2 []) : W p l e ({ frames := 2, cells := 0, slots := 0, locals := 42 } : Room) s m args below meth c H locs 0 0 Q (F0 m 43 ls []) := by
  obtain ⟨hx, hb, hml, hown, hts⟩ := id X
  unfold f_X5_readSide_43 at hf
  refine lv_iconst (v := (1 : Int32)) hx hb dX5_readSide_43 (by decide) ?_
  refine lv_goto (tgt := 48) hx hb dX5_readSide_44 (by decide) ?_
  exact w_X5_readSide_48 (t0 := (1 : Int32)) X hret hf hM (lv_sub hl [] rfl)
def f_X5_readSide_22 (x0 : Nat) (t0 : Int32) (t1 : Nat) (S : ZS) : Option (Int32 × ZS) :=
  m_chk (t1 ∈ zL S ∧ zK S t1 = 0) (
  m_bnd (zsI S 3 t1 t0) (fun S1 =>
  m_chk (x0 ∈ zL S1 ∧ zK S1 x0 = 5) (
  m_cal (f_X5_skip x0 (119 : Int32) S1) (fun o2 =>
  m_if (o2.1 = 0) (
  m_chk (x0 ∈ zL o2.2 ∧ zK o2.2 x0 = 5) (
  m_cal (f_X5_skip x0 (98 : Int32) o2.2) (fun o3 =>
  m_if (o3.1 = 0) (
  f_X5_readSide_48 (0 : Int32) o3.2
  ) (
  f_X5_readSide_43  o3.2
  )))
  ) (
  f_X5_readSide_43  o2.2
  )))))

set_option maxRecDepth 100000 in
set_option maxHeartbeats 4000000 in
theorem w_X5_readSide_22 {p : Program} {l : Launch} {e : Env} {s : State} {m : MethodId} {args : Array Value} {below : List Frame} {meth : Method} {c : Code} {Q : State → Prop} {D : va_G} {y : Nat → ClassId} {A0 : Nat → Prop} {o : Int32 × ZS} (X : CallFix p m c cX5_readSide 2 s args wsX5_readSide RX5) (hret : zRi p l e ({ frames := 2, cells := 0, slots := 0, locals := 42 } : Room) s m args below meth c Q cX5_readSide D y A0 .boolean o) {x0 : Nat} {t0 : Int32} {t1 : Nat} {S : ZS} {H : Heap} {locs : List Loc} {ls : Array Slot} (hf : f_X5_readSide_22 x0 t0 t1 S = some o) (hM : zH D y A0 s H locs S) (hl : lv_has ls 2 [(0, .ref x0)]) : W p l e ({ frames := 2, cells := 0, slots := 0, locals := 42 } : Room) s m args below meth c H locs 0 0 Q (F0 m 22 ls [.int t0, .ref t1]) := by
  obtain ⟨hx, hb, hml, hown, hts⟩ := id X
  unfold f_X5_readSide_22 at hf
  obtain ⟨ca, hf⟩ := m_chkE hf
  refine z_putI (k := 0) (j := 3) (C := RX0) (T := TX0) (N := 7) (fl := zf_0) (ty := .int) X hw_X5_readSide_0 tyX0_ok nmX0 hM rfl zc_0 ca (by decide) fl_X5_readSide_0_3 rfl (tyX0_ok 3 (by decide)) rfl rfl zi_0_3 (Nat.le_of_ble_eq_true rfl) dX5_readSide_22 (fun H locs hM => ?_)
  clear ca
  obtain ⟨S1, ev, hf⟩ := m_bndE hf
  replace hM := z_hS hM ev
  clear ev
  refine lv_aload_n hx hb dX5_readSide_25 rfl (lv_at hl 0 rfl) ?_
  refine lv_bipush (v := (119 : Int32)) hx hb dX5_readSide_26 (by decide) ?_
  obtain ⟨ca, hf⟩ := m_chkE hf
  obtain ⟨o2, ho, hf⟩ := m_calE hf
  refine z_callVi (k := 5) (C := RX5) (T := TX5) (N := 2) (fl := zf_5) X hM rfl zc_5 ca (c_X5_skip ho) gX5_readSide_X5_skip rfl ⟨rfl, rfl⟩ hd_X5_skip ⟨Nat.le_of_ble_eq_true rfl, Nat.le_of_ble_eq_true rfl⟩ rfl hl.1 rfl (Nat.le_of_ble_eq_true rfl) dX5_readSide_28 (fun H locs hM => ?_)
  clear ho
  refine lv_if_ne (tgt := 43) hx hb dX5_readSide_31 (by decide) (fun cc1 => ?_) (fun cc1 => ?_)
  · replace hf := m_ifF hf cc1
    exact w_X5_readSide_43 X hret hf hM (lv_sub hl [] rfl)
  · replace hf := m_ifT hf cc1
    refine lv_aload_n hx hb dX5_readSide_34 rfl (lv_at hl 0 rfl) ?_
    refine lv_bipush (v := (98 : Int32)) hx hb dX5_readSide_35 (by decide) ?_
    obtain ⟨ca, hf⟩ := m_chkE hf
    obtain ⟨o3, ho, hf⟩ := m_calE hf
    refine z_callVi (k := 5) (C := RX5) (T := TX5) (N := 2) (fl := zf_5) X hM rfl zc_5 ca (c_X5_skip ho) gX5_readSide_X5_skip rfl ⟨rfl, rfl⟩ hd_X5_skip ⟨Nat.le_of_ble_eq_true rfl, Nat.le_of_ble_eq_true rfl⟩ rfl hl.1 rfl (Nat.le_of_ble_eq_true rfl) dX5_readSide_37 (fun H locs hM => ?_)
    clear ho
    refine lv_if_eq (tgt := 47) hx hb dX5_readSide_40 (by decide) (fun cc1 => ?_) (fun cc1 => ?_)
    · replace hf := m_ifT hf cc1
      refine lv_iconst (v := (0 : Int32)) hx hb dX5_readSide_47 (by decide) ?_
      exact w_X5_readSide_48 (t0 := (0 : Int32)) X hret hf hM (lv_sub hl [] rfl)
    · replace hf := m_ifF hf cc1
      exact w_X5_readSide_43 X hret hf hM (lv_sub hl [] rfl)
def f_X5_readSide_0 (x0 : Nat) (x1 : Nat) (S : ZS) : Option (Int32 × ZS) :=
  m_chk (x0 ∈ zL S ∧ zK S x0 = 5) (
  m_cal (zP S 0 x0) (fun b1 =>
  m_chk (x0 ∈ zL S ∧ zK S x0 = 5) (
  m_chk (b1 ∈ zL S ∧ zK S b1 = 6) (
  m_cal (f_X6_at b1 (zI S 1 x0) S) (fun o2 =>
  m_if (o2.1 = (98 : Int32)) (
  f_X5_readSide_22 x0 (1 : Int32) x1 o2.2
  ) (
  f_X5_readSide_22 x0 (0 : Int32) x1 o2.2
  ))))))

set_option maxRecDepth 100000 in
set_option maxHeartbeats 4000000 in
theorem w_X5_readSide_0 {p : Program} {l : Launch} {e : Env} {s : State} {m : MethodId} {args : Array Value} {below : List Frame} {meth : Method} {c : Code} {Q : State → Prop} {D : va_G} {y : Nat → ClassId} {A0 : Nat → Prop} {o : Int32 × ZS} (X : CallFix p m c cX5_readSide 2 s args wsX5_readSide RX5) (hret : zRi p l e ({ frames := 2, cells := 0, slots := 0, locals := 42 } : Room) s m args below meth c Q cX5_readSide D y A0 .boolean o) {x0 : Nat} {x1 : Nat} {S : ZS} {H : Heap} {locs : List Loc} {ls : Array Slot} (hf : f_X5_readSide_0 x0 x1 S = some o) (hM : zH D y A0 s H locs S) (hl : lv_has ls 2 [(0, .ref x0), (1, .ref x1)]) : W p l e ({ frames := 2, cells := 0, slots := 0, locals := 42 } : Room) s m args below meth c H locs 0 0 Q (F0 m 0 ls []) := by
  obtain ⟨hx, hb, hml, hown, hts⟩ := id X
  unfold f_X5_readSide_0 at hf
  refine lv_aload_n hx hb dX5_readSide_0 rfl (lv_at hl 1 rfl) ?_
  refine lv_aload_n hx hb dX5_readSide_1 rfl (lv_at hl 0 rfl) ?_
  obtain ⟨ca, hf⟩ := m_chkE hf
  refine z_get (k := 5) (j := 0) (C := RX5) (T := TX5) (N := 2) (fl := zf_5) (v := va_rf (zP S 0 x0)) X hw_X5_readSide_5 hM rfl zc_5 ca (by decide) fl_X5_readSide_5_0 rfl dX5_readSide_2 ?_
  clear ca
  obtain ⟨b1, hb9, hf⟩ := m_calE hf
  refine z_topr hb9 ?_
  clear hb9
  refine lv_aload_n hx hb dX5_readSide_5 rfl (lv_at hl 0 rfl) ?_
  obtain ⟨ca, hf⟩ := m_chkE hf
  refine z_get (k := 5) (j := 1) (C := RX5) (T := TX5) (N := 2) (fl := zf_5) (v := .int (zI S 1 x0)) X hw_X5_readSide_5 hM rfl zc_5 ca (by decide) fl_X5_readSide_5_1 rfl dX5_readSide_6 ?_
  clear ca
  obtain ⟨ca, hf⟩ := m_chkE hf
  obtain ⟨o2, ho, hf⟩ := m_calE hf
  refine z_callVi (k := 6) (C := RX6) (T := TX6) (N := 2) (fl := zf_6) X hM rfl zc_6 ca (c_X6_at ho) gX5_readSide_X6_at rfl ⟨rfl, rfl⟩ hd_X6_at ⟨Nat.le_of_ble_eq_true rfl, Nat.le_of_ble_eq_true rfl⟩ rfl hl.1 rfl (Nat.le_of_ble_eq_true rfl) dX5_readSide_9 (fun H locs hM => ?_)
  clear ho
  refine lv_bipush (v := (98 : Int32)) hx hb dX5_readSide_12 (by decide) ?_
  refine lv_icmp_ne (tgt := 21) hx hb dX5_readSide_14 (by decide) (fun cc1 => ?_) (fun cc1 => ?_)
  · replace hf := m_ifF hf cc1
    refine lv_iconst (v := (0 : Int32)) hx hb dX5_readSide_21 (by decide) ?_
    exact w_X5_readSide_22 (x0 := x0) (t0 := (0 : Int32)) (t1 := x1) X hret hf hM (lv_sub hl [0] rfl)
  · replace hf := m_ifT hf cc1
    refine lv_iconst (v := (1 : Int32)) hx hb dX5_readSide_17 (by decide) ?_
    refine lv_goto (tgt := 22) hx hb dX5_readSide_18 (by decide) ?_
    exact w_X5_readSide_22 (x0 := x0) (t0 := (1 : Int32)) (t1 := x1) X hret hf hM (lv_sub hl [0] rfl)
def f_X5_readSide (x0 : Nat) (x1 : Nat) (S : ZS) : Option (Int32 × ZS) := f_X5_readSide_0 x0 x1 S
theorem c_X5_readSide {l : Launch} {D : va_G} {y : Nat → ClassId} {x0 : Nat} {x1 : Nat} {S : ZS} {o : Int32 × ZS} (hf : f_X5_readSide x0 x1 S = some o) : zMi l yX5_readSide wsX5_readSide ({ frames := 2, cells := 0, slots := 0, locals := 42 } : Room) [.ref x0, .ref x1] D y S o :=
  z_entryI (own := RX5) (cc := cX5_readSide) (maxL := 2) (by decide) rfl rfl (Nat.le_of_ble_eq_true rfl) (fun p e s m args below meth c A0 Q H locs ls X hret hM hl => w_X5_readSide_0 X hret hf hM (lv_sub hl [0, 1] rfl))
theorem hd_X5_readSide : yX5_readSide.cls = RX5 ∧ yX5_readSide.cls ≠ "java/lang/invoke/MethodHandle" ∧ yX5_readSide.cls ≠ "java/lang/invoke/VarHandle" ∧ (parseMethodDescriptor yX5_readSide.desc).map (fun d => d.parameters.length) = some 1 := by decide +kernel
theorem fl_X5_readRights_0_4 : Cond.fieldLink RX5 99 "MoveTexts$Board" "rights" "I" ∈ wsX5_readRights := by decide +kernel
theorem hw_X5_readRights_0 : ∀ w ∈ wsX00, w ∈ wsX5_readRights := by decide +kernel
theorem sr_X5_readRights_91 : (RX5, 91, "KQkq", 2) ∈ zSR := by decide +kernel
def f_X5_readRights_65 (t0 : Int32) (S : ZS) : Option (Int32 × ZS) :=
  m_chk (vp_nar .boolean t0 = t0) (some (t0, S))

set_option maxRecDepth 100000 in
set_option maxHeartbeats 4000000 in
theorem w_X5_readRights_65 {p : Program} {l : Launch} {e : Env} {s : State} {m : MethodId} {args : Array Value} {below : List Frame} {meth : Method} {c : Code} {Q : State → Prop} {D : va_G} {y : Nat → ClassId} {A0 : Nat → Prop} {o : Int32 × ZS} (X : CallFix p m c cX5_readRights 3 s args wsX5_readRights RX5) (hret : zRi p l e ({ frames := 4, cells := 0, slots := 0, locals := 85 } : Room) s m args below meth c Q cX5_readRights D y A0 .boolean o) {t0 : Int32} {S : ZS} {H : Heap} {locs : List Loc} {ls : Array Slot} (hf : f_X5_readRights_65 t0 S = some o) (hM : zH D y A0 s H locs S) (hl : lv_has ls 3 []) : W p l e ({ frames := 4, cells := 0, slots := 0, locals := 85 } : Room) s m args below meth c H locs 0 0 Q (F0 m 65 ls [.int t0]) := by
  obtain ⟨hx, hb, hml, hown, hts⟩ := id X
  unfold f_X5_readRights_65 at hf
  obtain ⟨cd, hf⟩ := m_chkE hf
  cases hf
  exact hret H locs _ ls hM (m_nb cd) dX5_readRights_65
def f_X5_readRights_47 (self13 : Nat → Nat → Int32 → ZS → Option (Int32 × ZS)) (x0 : Nat) (x1 : Nat) (x2 : Int32) (S : ZS) : Option (Int32 × ZS) :=
  m_bnd (x2 + (1 : Int32)) (fun v1 =>
  self13 x0 x1 v1 S)

set_option maxRecDepth 100000 in
set_option maxHeartbeats 4000000 in
theorem w_X5_readRights_47 {p : Program} {l : Launch} {e : Env} {s : State} {m : MethodId} {args : Array Value} {below : List Frame} {meth : Method} {c : Code} {Q : State → Prop} {D : va_G} {y : Nat → ClassId} {A0 : Nat → Prop} {o : Int32 × ZS} (X : CallFix p m c cX5_readRights 3 s args wsX5_readRights RX5) (hret : zRi p l e ({ frames := 4, cells := 0, slots := 0, locals := 85 } : Room) s m args below meth c Q cX5_readRights D y A0 .boolean o) {self13 : Nat → Nat → Int32 → ZS → Option (Int32 × ZS)} (hself13 : ∀ (x0 : Nat) (x1 : Nat) (x2 : Int32) (S : ZS) (H : Heap) (locs : List Loc) (ls : Array Slot), self13 x0 x1 x2 S = some o → zH D y A0 s H locs S → lv_has ls 3 [(0, .ref x0), (1, .ref x1), (2, .int x2)] → W p l e ({ frames := 4, cells := 0, slots := 0, locals := 85 } : Room) s m args below meth c H locs 0 0 Q (F0 m 13 ls [])) {x0 : Nat} {x1 : Nat} {x2 : Int32} {S : ZS} {H : Heap} {locs : List Loc} {ls : Array Slot} (hf : f_X5_readRights_47 self13 x0 x1 x2 S = some o) (hM : zH D y A0 s H locs S) (hl : lv_has ls 3 [(0, .ref x0), (1, .ref x1), (2, .int x2)]) : W p l e ({ frames := 4, cells := 0, slots := 0, locals := 85 } : Room) s m args below meth c H locs 0 0 Q (F0 m 47 ls []) := by
  obtain ⟨hx, hb, hml, hown, hts⟩ := id X
  unfold f_X5_readRights_47 at hf
  obtain ⟨v1, ev, hf⟩ := m_bndE hf
  refine lv_iinc (v := v1) (lv' := [(2, .int v1), (0, .ref x0), (1, .ref x1)]) hx hb dX5_readRights_47 hl (k := 2) rfl (by rw [ev]; rfl) (by decide) rfl (fun ls hl => ?_)
  clear ev
  refine lv_goto (tgt := 13) hx hb dX5_readRights_50 (by decide) ?_
  exact hself13 x0 x1 v1 _ _ _ _ hf hM (lv_sub hl [1, 2, 0] rfl)
def f_X5_readRights_13s (self13 : Nat → Nat → Int32 → ZS → Option (Int32 × ZS)) (x0 : Nat) (x1 : Nat) (x2 : Int32) (S : ZS) : Option (Int32 × ZS) :=
  m_chk (2 < zSn) (
  m_cal (f_J0_length_8abf5 2 S) (fun o1 =>
  m_if (o1.1 ≤ x2) (
  m_chk (x1 ∈ zL o1.2 ∧ zK o1.2 x1 = 0) (
  m_if ((zI o1.2 4 x1) = 0) (
  f_X5_readRights_65 (0 : Int32) o1.2
  ) (
  f_X5_readRights_65 (1 : Int32) o1.2
  ))
  ) (
  m_chk (2 < zSn) (
  m_cal (f_J0_charAt_5068e 2 x2 o1.2) (fun o2 =>
  m_chk (x0 ∈ zL o2.2 ∧ zK o2.2 x0 = 5) (
  m_cal (f_X5_skip x0 o2.1 o2.2) (fun o3 =>
  m_if (o3.1 = 0) (
  f_X5_readRights_47 self13 x0 x1 x2 o3.2
  ) (
  m_chk (x1 ∈ zL o3.2 ∧ zK o3.2 x1 = 0) (
  m_bnd ((1 : Int32) <<< (x2 &&& 31)) (fun v4 =>
  m_bnd ((zI o3.2 4 x1) ||| v4) (fun v5 =>
  m_chk (x1 ∈ zL o3.2 ∧ zK o3.2 x1 = 0) (
  m_bnd (zsI o3.2 4 x1 v5) (fun S6 =>
  f_X5_readRights_47 self13 x0 x1 x2 S6)))))
  )))))
  )))

set_option maxRecDepth 100000 in
set_option maxHeartbeats 4000000 in
theorem ws_X5_readRights_13 {p : Program} {l : Launch} {e : Env} {s : State} {m : MethodId} {args : Array Value} {below : List Frame} {meth : Method} {c : Code} {Q : State → Prop} {D : va_G} {y : Nat → ClassId} {A0 : Nat → Prop} {o : Int32 × ZS} (X : CallFix p m c cX5_readRights 3 s args wsX5_readRights RX5) (hret : zRi p l e ({ frames := 4, cells := 0, slots := 0, locals := 85 } : Room) s m args below meth c Q cX5_readRights D y A0 .boolean o) {self13 : Nat → Nat → Int32 → ZS → Option (Int32 × ZS)} (hself13 : ∀ (x0 : Nat) (x1 : Nat) (x2 : Int32) (S : ZS) (H : Heap) (locs : List Loc) (ls : Array Slot), self13 x0 x1 x2 S = some o → zH D y A0 s H locs S → lv_has ls 3 [(0, .ref x0), (1, .ref x1), (2, .int x2)] → W p l e ({ frames := 4, cells := 0, slots := 0, locals := 85 } : Room) s m args below meth c H locs 0 0 Q (F0 m 13 ls [])) {x0 : Nat} {x1 : Nat} {x2 : Int32} {S : ZS} {H : Heap} {locs : List Loc} {ls : Array Slot} (hf : f_X5_readRights_13s self13 x0 x1 x2 S = some o) (hM : zH D y A0 s H locs S) (hl : lv_has ls 3 [(0, .ref x0), (1, .ref x1), (2, .int x2)]) : W p l e ({ frames := 4, cells := 0, slots := 0, locals := 85 } : Room) s m args below meth c H locs 0 0 Q (F0 m 13 ls []) := by
  obtain ⟨hx, hb, hml, hown, hts⟩ := id X
  unfold f_X5_readRights_13s at hf
  refine lv_iload_n hx hb dX5_readRights_13 rfl (lv_at hl 2 rfl) ?_
  refine z_ldcS X hM sr_X5_readRights_91 dX5_readRights_14 ?_
  obtain ⟨ca, hf⟩ := m_chkE hf
  obtain ⟨o1, ho, hf⟩ := m_calE hf
  refine z_callTi X hM ca (c_J0_length_8abf5 ho) gX5_readRights_J0_length_8abf5 rfl ⟨rfl, rfl⟩ hd_J0_length_8abf5 ⟨Nat.le_of_ble_eq_true rfl, Nat.le_of_ble_eq_true rfl⟩ rfl hl.1 rfl (Nat.le_of_ble_eq_true rfl) dX5_readRights_16 (fun H locs hM => ?_)
  clear ho
  refine lv_icmp_ge (tgt := 53) hx hb dX5_readRights_19 (by decide) (fun cc1 => ?_) (fun cc1 => ?_)
  · replace hf := m_ifT hf cc1
    refine lv_aload_n hx hb dX5_readRights_53 rfl (lv_at hl 1 rfl) ?_
    obtain ⟨ca, hf⟩ := m_chkE hf
    refine z_get (k := 0) (j := 4) (C := RX0) (T := TX0) (N := 7) (fl := zf_0) (v := .int (zI o1.2 4 x1)) X hw_X5_readRights_0 hM rfl zc_0 ca (by decide) fl_X5_readRights_0_4 rfl dX5_readRights_54 ?_
    clear ca
    refine lv_if_eq (tgt := 64) hx hb dX5_readRights_57 (by decide) (fun cc1 => ?_) (fun cc1 => ?_)
    · replace hf := m_ifT hf cc1
      refine lv_iconst (v := (0 : Int32)) hx hb dX5_readRights_64 (by decide) ?_
      exact w_X5_readRights_65 (t0 := (0 : Int32)) X hret hf hM (lv_sub hl [] rfl)
    · replace hf := m_ifF hf cc1
      refine lv_iconst (v := (1 : Int32)) hx hb dX5_readRights_60 (by decide) ?_
      refine lv_goto (tgt := 65) hx hb dX5_readRights_61 (by decide) ?_
      exact w_X5_readRights_65 (t0 := (1 : Int32)) X hret hf hM (lv_sub hl [] rfl)
  · replace hf := m_ifF hf cc1
    refine lv_aload_n hx hb dX5_readRights_22 rfl (lv_at hl 0 rfl) ?_
    refine z_ldcS X hM sr_X5_readRights_91 dX5_readRights_23 ?_
    refine lv_iload_n hx hb dX5_readRights_25 rfl (lv_at hl 2 rfl) ?_
    obtain ⟨ca, hf⟩ := m_chkE hf
    obtain ⟨o2, ho, hf⟩ := m_calE hf
    refine z_callTi X hM ca (c_J0_charAt_5068e ho) gX5_readRights_J0_charAt_5068e rfl ⟨rfl, rfl⟩ hd_J0_charAt_5068e ⟨Nat.le_of_ble_eq_true rfl, Nat.le_of_ble_eq_true rfl⟩ rfl hl.1 rfl (Nat.le_of_ble_eq_true rfl) dX5_readRights_26 (fun H locs hM => ?_)
    clear ho
    obtain ⟨ca, hf⟩ := m_chkE hf
    obtain ⟨o3, ho, hf⟩ := m_calE hf
    refine z_callVi (k := 5) (C := RX5) (T := TX5) (N := 2) (fl := zf_5) X hM rfl zc_5 ca (c_X5_skip ho) gX5_readRights_X5_skip rfl ⟨rfl, rfl⟩ hd_X5_skip ⟨Nat.le_of_ble_eq_true rfl, Nat.le_of_ble_eq_true rfl⟩ rfl hl.1 rfl (Nat.le_of_ble_eq_true rfl) dX5_readRights_29 (fun H locs hM => ?_)
    clear ho
    refine lv_if_eq (tgt := 47) hx hb dX5_readRights_32 (by decide) (fun cc1 => ?_) (fun cc1 => ?_)
    · replace hf := m_ifT hf cc1
      exact w_X5_readRights_47 (x0 := x0) (x1 := x1) (x2 := x2) X hret hself13 hf hM (lv_sub hl [0, 1, 2] rfl)
    · replace hf := m_ifF hf cc1
      refine lv_aload_n hx hb dX5_readRights_35 rfl (lv_at hl 1 rfl) ?_
      refine lv_dup hx hb dX5_readRights_36 rfl ?_
      obtain ⟨ca, hf⟩ := m_chkE hf
      refine z_get (k := 0) (j := 4) (C := RX0) (T := TX0) (N := 7) (fl := zf_0) (v := .int (zI o3.2 4 x1)) X hw_X5_readRights_0 hM rfl zc_0 ca (by decide) fl_X5_readRights_0_4 rfl dX5_readRights_37 ?_
      clear ca
      refine lv_iconst (v := (1 : Int32)) hx hb dX5_readRights_40 (by decide) ?_
      refine lv_iload_n hx hb dX5_readRights_41 rfl (lv_at hl 2 rfl) ?_
      refine lv_ishl hx hb dX5_readRights_42 ?_
      obtain ⟨v4, ev, hf⟩ := m_bndE hf
      refine m_top ev ?_
      clear ev
      refine lv_ior hx hb dX5_readRights_43 ?_
      obtain ⟨v5, ev, hf⟩ := m_bndE hf
      refine m_top ev ?_
      clear ev
      obtain ⟨ca, hf⟩ := m_chkE hf
      refine z_putI (k := 0) (j := 4) (C := RX0) (T := TX0) (N := 7) (fl := zf_0) (ty := .int) X hw_X5_readRights_0 tyX0_ok nmX0 hM rfl zc_0 ca (by decide) fl_X5_readRights_0_4 rfl (tyX0_ok 4 (by decide)) rfl rfl zi_0_4 (Nat.le_of_ble_eq_true rfl) dX5_readRights_44 (fun H locs hM => ?_)
      clear ca
      obtain ⟨S6, ev, hf⟩ := m_bndE hf
      replace hM := z_hS hM ev
      clear ev
      exact w_X5_readRights_47 (x0 := x0) (x1 := x1) (x2 := x2) X hret hself13 hf hM (lv_sub hl [0, 1, 2] rfl)
def f_X5_readRights_13 : Nat → Nat → Nat → Int32 → ZS → Option (Int32 × ZS)
  | 0 => fun _ _ _ _ => none
  | n + 1 => f_X5_readRights_13s (f_X5_readRights_13 n)
theorem w_X5_readRights_13 {p : Program} {l : Launch} {e : Env} {s : State} {m : MethodId} {args : Array Value} {below : List Frame} {meth : Method} {c : Code} {Q : State → Prop} {D : va_G} {y : Nat → ClassId} {A0 : Nat → Prop} {o : Int32 × ZS} (X : CallFix p m c cX5_readRights 3 s args wsX5_readRights RX5) (hret : zRi p l e ({ frames := 4, cells := 0, slots := 0, locals := 85 } : Room) s m args below meth c Q cX5_readRights D y A0 .boolean o) (n : Nat) : ∀ (x0 : Nat) (x1 : Nat) (x2 : Int32) (S : ZS) (H : Heap) (locs : List Loc) (ls : Array Slot), f_X5_readRights_13 n x0 x1 x2 S = some o → zH D y A0 s H locs S → lv_has ls 3 [(0, .ref x0), (1, .ref x1), (2, .int x2)] → W p l e ({ frames := 4, cells := 0, slots := 0, locals := 85 } : Room) s m args below meth c H locs 0 0 Q (F0 m 13 ls []) := by
  induction n with
  | zero => intro x0 x1 x2 S H locs ls hf; cases hf
  | succ n ih => intro x0 x1 x2 S H locs ls hf hM hl; exact ws_X5_readRights_13 X hret (self13 := f_X5_readRights_13 n) ih hf hM hl
def f_X5_readRights_0 (x0 : Nat) (x1 : Nat) (S : ZS) : Option (Int32 × ZS) :=
  m_chk (x0 ∈ zL S ∧ zK S x0 = 5) (
  m_cal (f_X5_skip x0 (45 : Int32) S) (fun o1 =>
  m_if (o1.1 = 0) (
  f_X5_readRights_13 mFuel x0 x1 (0 : Int32) o1.2
  ) (
  m_chk (vp_nar .boolean (1 : Int32) = (1 : Int32)) (some ((1 : Int32), o1.2))
  )))

set_option maxRecDepth 100000 in
set_option maxHeartbeats 4000000 in
theorem w_X5_readRights_0 {p : Program} {l : Launch} {e : Env} {s : State} {m : MethodId} {args : Array Value} {below : List Frame} {meth : Method} {c : Code} {Q : State → Prop} {D : va_G} {y : Nat → ClassId} {A0 : Nat → Prop} {o : Int32 × ZS} (X : CallFix p m c cX5_readRights 3 s args wsX5_readRights RX5) (hret : zRi p l e ({ frames := 4, cells := 0, slots := 0, locals := 85 } : Room) s m args below meth c Q cX5_readRights D y A0 .boolean o) {x0 : Nat} {x1 : Nat} {S : ZS} {H : Heap} {locs : List Loc} {ls : Array Slot} (hf : f_X5_readRights_0 x0 x1 S = some o) (hM : zH D y A0 s H locs S) (hl : lv_has ls 3 [(0, .ref x0), (1, .ref x1)]) : W p l e ({ frames := 4, cells := 0, slots := 0, locals := 85 } : Room) s m args below meth c H locs 0 0 Q (F0 m 0 ls []) := by
  obtain ⟨hx, hb, hml, hown, hts⟩ := id X
  unfold f_X5_readRights_0 at hf
  refine lv_aload_n hx hb dX5_readRights_0 rfl (lv_at hl 0 rfl) ?_
  refine lv_bipush (v := (45 : Int32)) hx hb dX5_readRights_1 (by decide) ?_
  obtain ⟨ca, hf⟩ := m_chkE hf
  obtain ⟨o1, ho, hf⟩ := m_calE hf
  refine z_callVi (k := 5) (C := RX5) (T := TX5) (N := 2) (fl := zf_5) X hM rfl zc_5 ca (c_X5_skip ho) gX5_readRights_X5_skip rfl ⟨rfl, rfl⟩ hd_X5_skip ⟨Nat.le_of_ble_eq_true rfl, Nat.le_of_ble_eq_true rfl⟩ rfl hl.1 rfl (Nat.le_of_ble_eq_true rfl) dX5_readRights_3 (fun H locs hM => ?_)
  clear ho
  refine lv_if_eq (tgt := 11) hx hb dX5_readRights_6 (by decide) (fun cc1 => ?_) (fun cc1 => ?_)
  · replace hf := m_ifT hf cc1
    refine lv_iconst (v := (0 : Int32)) hx hb dX5_readRights_11 (by decide) ?_
    refine lv_istore_n (lv' := [(2, .int (0 : Int32)), (0, .ref x0), (1, .ref x1)]) hx hb dX5_readRights_12 rfl hl (by decide) rfl (fun ls hl => ?_)
    exact w_X5_readRights_13 X hret _ x0 x1 (0 : Int32) _ _ _ _ hf hM (lv_sub hl [1, 2, 0] rfl)
  · replace hf := m_ifF hf cc1
    refine lv_iconst (v := (1 : Int32)) hx hb dX5_readRights_9 (by decide) ?_
    obtain ⟨cd, hf⟩ := m_chkE hf
    cases hf
    exact hret H locs _ ls hM (m_nb cd) dX5_readRights_10
def f_X5_readRights (x0 : Nat) (x1 : Nat) (S : ZS) : Option (Int32 × ZS) := f_X5_readRights_0 x0 x1 S
theorem c_X5_readRights {l : Launch} {D : va_G} {y : Nat → ClassId} {x0 : Nat} {x1 : Nat} {S : ZS} {o : Int32 × ZS} (hf : f_X5_readRights x0 x1 S = some o) : zMi l yX5_readRights wsX5_readRights ({ frames := 4, cells := 0, slots := 0, locals := 85 } : Room) [.ref x0, .ref x1] D y S o :=
  z_entryI (own := RX5) (cc := cX5_readRights) (maxL := 3) (by decide) rfl rfl (Nat.le_of_ble_eq_true rfl) (fun p e s m args below meth c A0 Q H locs ls X hret hM hl => w_X5_readRights_0 X hret hf hM (lv_sub hl [0, 1] rfl))
theorem hd_X5_readRights : yX5_readRights.cls = RX5 ∧ yX5_readRights.cls ≠ "java/lang/invoke/MethodHandle" ∧ yX5_readRights.cls ≠ "java/lang/invoke/VarHandle" ∧ (parseMethodDescriptor yX5_readRights.desc).map (fun d => d.parameters.length) = some 1 := by decide +kernel
theorem fl_X5_readPassed_0_5 : Cond.fieldLink RX5 106 "MoveTexts$Board" "passed" "I" ∈ wsX5_readPassed := by decide +kernel
theorem fl_X5_readPassed_5_0 : Cond.fieldLink RX5 12 "MoveTexts$PositionReader" "text" "LMoveTexts$Row;" ∈ wsX5_readPassed := by decide +kernel
theorem fl_X5_readPassed_5_1 : Cond.fieldLink RX5 18 "MoveTexts$PositionReader" "at" "I" ∈ wsX5_readPassed := by decide +kernel
theorem hw_X5_readPassed_0 : ∀ w ∈ wsX00, w ∈ wsX5_readPassed := by decide +kernel
theorem hw_X5_readPassed_5 : ∀ w ∈ wsX50, w ∈ wsX5_readPassed := by decide +kernel
theorem nn_X5_readPassed_102 : ((RX5, 102, yX11_squareOf, "MoveTexts") ∈ zNW ∧ Cond.initialized yX11_squareOf.cls ∈ wsX5_readPassed) ∧ Cond.static yX11_squareOf ∈ wsX5_readPassed := by decide +kernel
def f_X5_readPassed_65 (t0 : Int32) (S : ZS) : Option (Int32 × ZS) :=
  m_chk (vp_nar .boolean t0 = t0) (some (t0, S))

set_option maxRecDepth 100000 in
set_option maxHeartbeats 4000000 in
theorem w_X5_readPassed_65 {p : Program} {l : Launch} {e : Env} {s : State} {m : MethodId} {args : Array Value} {below : List Frame} {meth : Method} {c : Code} {Q : State → Prop} {D : va_G} {y : Nat → ClassId} {A0 : Nat → Prop} {o : Int32 × ZS} (X : CallFix p m c cX5_readPassed 2 s args wsX5_readPassed RX5) (hret : zRi p l e ({ frames := 2, cells := 0, slots := 0, locals := 42 } : Room) s m args below meth c Q cX5_readPassed D y A0 .boolean o) {t0 : Int32} {S : ZS} {H : Heap} {locs : List Loc} {ls : Array Slot} (hf : f_X5_readPassed_65 t0 S = some o) (hM : zH D y A0 s H locs S) (hl : lv_has ls 2 []) : W p l e ({ frames := 2, cells := 0, slots := 0, locals := 42 } : Room) s m args below meth c H locs 0 0 Q (F0 m 65 ls [.int t0]) := by
  obtain ⟨hx, hb, hml, hown, hts⟩ := id X
  unfold f_X5_readPassed_65 at hf
  obtain ⟨cd, hf⟩ := m_chkE hf
  cases hf
  exact hret H locs _ ls hM (m_nb cd) dX5_readPassed_65
def f_X5_readPassed_0 (x0 : Nat) (x1 : Nat) (S : ZS) : Option (Int32 × ZS) :=
  m_chk (x0 ∈ zL S ∧ zK S x0 = 5) (
  m_cal (f_X5_skip x0 (45 : Int32) S) (fun o1 =>
  m_if (o1.1 = 0) (
  m_chk (x0 ∈ zL o1.2 ∧ zK o1.2 x0 = 5) (
  m_cal (zP o1.2 0 x0) (fun b2 =>
  m_chk (x0 ∈ zL o1.2 ∧ zK o1.2 x0 = 5) (
  m_chk (b2 ∈ zL o1.2 ∧ zK o1.2 b2 = 6) (
  m_cal (f_X6_at b2 (zI o1.2 1 x0) o1.2) (fun o3 =>
  m_chk (x0 ∈ zL o3.2 ∧ zK o3.2 x0 = 5) (
  m_cal (zP o3.2 0 x0) (fun b4 =>
  m_chk (x0 ∈ zL o3.2 ∧ zK o3.2 x0 = 5) (
  m_bnd ((zI o3.2 1 x0) + (1 : Int32)) (fun v5 =>
  m_chk (b4 ∈ zL o3.2 ∧ zK o3.2 b4 = 6) (
  m_cal (f_X6_at b4 v5 o3.2) (fun o6 =>
  m_cal (f_X11_squareOf o3.1 o6.1 o6.2) (fun o7 =>
  m_chk (x1 ∈ zL o7.2 ∧ zK o7.2 x1 = 0) (
  m_bnd (zsI o7.2 5 x1 o7.1) (fun S8 =>
  m_chk (x0 ∈ zL S8 ∧ zK S8 x0 = 5) (
  m_bnd ((zI S8 1 x0) + (2 : Int32)) (fun v9 =>
  m_chk (x0 ∈ zL S8 ∧ zK S8 x0 = 5) (
  m_bnd (zsI S8 1 x0 v9) (fun S10 =>
  m_chk (x1 ∈ zL S10 ∧ zK S10 x1 = 0) (
  m_if ((zI S10 5 x1) = (-1 : Int32)) (
  f_X5_readPassed_65 (0 : Int32) S10
  ) (
  f_X5_readPassed_65 (1 : Int32) S10
  ))))))))))))))))))))
  ) (
  m_chk (vp_nar .boolean (1 : Int32) = (1 : Int32)) (some ((1 : Int32), o1.2))
  )))

set_option maxRecDepth 100000 in
set_option maxHeartbeats 4000000 in
theorem w_X5_readPassed_0 {p : Program} {l : Launch} {e : Env} {s : State} {m : MethodId} {args : Array Value} {below : List Frame} {meth : Method} {c : Code} {Q : State → Prop} {D : va_G} {y : Nat → ClassId} {A0 : Nat → Prop} {o : Int32 × ZS} (X : CallFix p m c cX5_readPassed 2 s args wsX5_readPassed RX5) (hret : zRi p l e ({ frames := 2, cells := 0, slots := 0, locals := 42 } : Room) s m args below meth c Q cX5_readPassed D y A0 .boolean o) {x0 : Nat} {x1 : Nat} {S : ZS} {H : Heap} {locs : List Loc} {ls : Array Slot} (hf : f_X5_readPassed_0 x0 x1 S = some o) (hM : zH D y A0 s H locs S) (hl : lv_has ls 2 [(0, .ref x0), (1, .ref x1)]) : W p l e ({ frames := 2, cells := 0, slots := 0, locals := 42 } : Room) s m args below meth c H locs 0 0 Q (F0 m 0 ls []) := by
  obtain ⟨hx, hb, hml, hown, hts⟩ := id X
  unfold f_X5_readPassed_0 at hf
  refine lv_aload_n hx hb dX5_readPassed_0 rfl (lv_at hl 0 rfl) ?_
  refine lv_bipush (v := (45 : Int32)) hx hb dX5_readPassed_1 (by decide) ?_
  obtain ⟨ca, hf⟩ := m_chkE hf
  obtain ⟨o1, ho, hf⟩ := m_calE hf
  refine z_callVi (k := 5) (C := RX5) (T := TX5) (N := 2) (fl := zf_5) X hM rfl zc_5 ca (c_X5_skip ho) gX5_readPassed_X5_skip rfl ⟨rfl, rfl⟩ hd_X5_skip ⟨Nat.le_of_ble_eq_true rfl, Nat.le_of_ble_eq_true rfl⟩ rfl hl.1 rfl (Nat.le_of_ble_eq_true rfl) dX5_readPassed_3 (fun H locs hM => ?_)
  clear ho
  refine lv_if_eq (tgt := 11) hx hb dX5_readPassed_6 (by decide) (fun cc1 => ?_) (fun cc1 => ?_)
  · replace hf := m_ifT hf cc1
    refine lv_aload_n hx hb dX5_readPassed_11 rfl (lv_at hl 1 rfl) ?_
    refine lv_aload_n hx hb dX5_readPassed_12 rfl (lv_at hl 0 rfl) ?_
    obtain ⟨ca, hf⟩ := m_chkE hf
    refine z_get (k := 5) (j := 0) (C := RX5) (T := TX5) (N := 2) (fl := zf_5) (v := va_rf (zP o1.2 0 x0)) X hw_X5_readPassed_5 hM rfl zc_5 ca (by decide) fl_X5_readPassed_5_0 rfl dX5_readPassed_13 ?_
    clear ca
    obtain ⟨b2, hb9, hf⟩ := m_calE hf
    refine z_topr hb9 ?_
    clear hb9
    refine lv_aload_n hx hb dX5_readPassed_16 rfl (lv_at hl 0 rfl) ?_
    obtain ⟨ca, hf⟩ := m_chkE hf
    refine z_get (k := 5) (j := 1) (C := RX5) (T := TX5) (N := 2) (fl := zf_5) (v := .int (zI o1.2 1 x0)) X hw_X5_readPassed_5 hM rfl zc_5 ca (by decide) fl_X5_readPassed_5_1 rfl dX5_readPassed_17 ?_
    clear ca
    obtain ⟨ca, hf⟩ := m_chkE hf
    obtain ⟨o3, ho, hf⟩ := m_calE hf
    refine z_callVi (k := 6) (C := RX6) (T := TX6) (N := 2) (fl := zf_6) X hM rfl zc_6 ca (c_X6_at ho) gX5_readPassed_X6_at rfl ⟨rfl, rfl⟩ hd_X6_at ⟨Nat.le_of_ble_eq_true rfl, Nat.le_of_ble_eq_true rfl⟩ rfl hl.1 rfl (Nat.le_of_ble_eq_true rfl) dX5_readPassed_20 (fun H locs hM => ?_)
    clear ho
    refine lv_aload_n hx hb dX5_readPassed_23 rfl (lv_at hl 0 rfl) ?_
    obtain ⟨ca, hf⟩ := m_chkE hf
    refine z_get (k := 5) (j := 0) (C := RX5) (T := TX5) (N := 2) (fl := zf_5) (v := va_rf (zP o3.2 0 x0)) X hw_X5_readPassed_5 hM rfl zc_5 ca (by decide) fl_X5_readPassed_5_0 rfl dX5_readPassed_24 ?_
    clear ca
    obtain ⟨b4, hb9, hf⟩ := m_calE hf
    refine z_topr hb9 ?_
    clear hb9
    refine lv_aload_n hx hb dX5_readPassed_27 rfl (lv_at hl 0 rfl) ?_
    obtain ⟨ca, hf⟩ := m_chkE hf
    refine z_get (k := 5) (j := 1) (C := RX5) (T := TX5) (N := 2) (fl := zf_5) (v := .int (zI o3.2 1 x0)) X hw_X5_readPassed_5 hM rfl zc_5 ca (by decide) fl_X5_readPassed_5_1 rfl dX5_readPassed_28 ?_
    clear ca
    refine lv_iconst (v := (1 : Int32)) hx hb dX5_readPassed_31 (by decide) ?_
    refine lv_iadd hx hb dX5_readPassed_32 ?_
    obtain ⟨v5, ev, hf⟩ := m_bndE hf
    refine m_top ev ?_
    clear ev
    obtain ⟨ca, hf⟩ := m_chkE hf
    obtain ⟨o6, ho, hf⟩ := m_calE hf
    refine z_callVi (k := 6) (C := RX6) (T := TX6) (N := 2) (fl := zf_6) X hM rfl zc_6 ca (c_X6_at ho) gX5_readPassed_X6_at rfl ⟨rfl, rfl⟩ hd_X6_at ⟨Nat.le_of_ble_eq_true rfl, Nat.le_of_ble_eq_true rfl⟩ rfl hl.1 rfl (Nat.le_of_ble_eq_true rfl) dX5_readPassed_33 (fun H locs hM => ?_)
    clear ho
    obtain ⟨o7, ho, hf⟩ := m_calE hf
    refine z_callSNi X hM (c_X11_squareOf ho) gX5_readPassed_X11_squareOf_n102 nn_X5_readPassed_102.1.1 nn_X5_readPassed_102.1.2 nn_X5_readPassed_102.2 rfl ⟨rfl, rfl⟩ hd_X11_squareOf ⟨Nat.le_of_ble_eq_true rfl, Nat.le_of_ble_eq_true rfl⟩ rfl hl.1 rfl (Nat.le_of_ble_eq_true rfl) dX5_readPassed_36 (fun H locs hM => ?_)
    clear ho
    obtain ⟨ca, hf⟩ := m_chkE hf
    refine z_putI (k := 0) (j := 5) (C := RX0) (T := TX0) (N := 7) (fl := zf_0) (ty := .int) X hw_X5_readPassed_0 tyX0_ok nmX0 hM rfl zc_0 ca (by decide) fl_X5_readPassed_0_5 rfl (tyX0_ok 5 (by decide)) rfl rfl zi_0_5 (Nat.le_of_ble_eq_true rfl) dX5_readPassed_39 (fun H locs hM => ?_)
    clear ca
    obtain ⟨S8, ev, hf⟩ := m_bndE hf
    replace hM := z_hS hM ev
    clear ev
    refine lv_aload_n hx hb dX5_readPassed_42 rfl (lv_at hl 0 rfl) ?_
    refine lv_dup hx hb dX5_readPassed_43 rfl ?_
    obtain ⟨ca, hf⟩ := m_chkE hf
    refine z_get (k := 5) (j := 1) (C := RX5) (T := TX5) (N := 2) (fl := zf_5) (v := .int (zI S8 1 x0)) X hw_X5_readPassed_5 hM rfl zc_5 ca (by decide) fl_X5_readPassed_5_1 rfl dX5_readPassed_44 ?_
    clear ca
    refine lv_iconst (v := (2 : Int32)) hx hb dX5_readPassed_47 (by decide) ?_
    refine lv_iadd hx hb dX5_readPassed_48 ?_
    obtain ⟨v9, ev, hf⟩ := m_bndE hf
    refine m_top ev ?_
    clear ev
    obtain ⟨ca, hf⟩ := m_chkE hf
    refine z_putI (k := 5) (j := 1) (C := RX5) (T := TX5) (N := 2) (fl := zf_5) (ty := .int) X hw_X5_readPassed_5 tyX5_ok nmX5 hM rfl zc_5 ca (by decide) fl_X5_readPassed_5_1 rfl (tyX5_ok 1 (by decide)) rfl rfl zi_5_1 (Nat.le_of_ble_eq_true rfl) dX5_readPassed_49 (fun H locs hM => ?_)
    clear ca
    obtain ⟨S10, ev, hf⟩ := m_bndE hf
    replace hM := z_hS hM ev
    clear ev
    refine lv_aload_n hx hb dX5_readPassed_52 rfl (lv_at hl 1 rfl) ?_
    obtain ⟨ca, hf⟩ := m_chkE hf
    refine z_get (k := 0) (j := 5) (C := RX0) (T := TX0) (N := 7) (fl := zf_0) (v := .int (zI S10 5 x1)) X hw_X5_readPassed_0 hM rfl zc_0 ca (by decide) fl_X5_readPassed_0_5 rfl dX5_readPassed_53 ?_
    clear ca
    refine lv_iconst (v := (-1 : Int32)) hx hb dX5_readPassed_56 (by decide) ?_
    refine lv_icmp_eq (tgt := 64) hx hb dX5_readPassed_57 (by decide) (fun cc1 => ?_) (fun cc1 => ?_)
    · replace hf := m_ifT hf cc1
      refine lv_iconst (v := (0 : Int32)) hx hb dX5_readPassed_64 (by decide) ?_
      exact w_X5_readPassed_65 (t0 := (0 : Int32)) X hret hf hM (lv_sub hl [] rfl)
    · replace hf := m_ifF hf cc1
      refine lv_iconst (v := (1 : Int32)) hx hb dX5_readPassed_60 (by decide) ?_
      refine lv_goto (tgt := 65) hx hb dX5_readPassed_61 (by decide) ?_
      exact w_X5_readPassed_65 (t0 := (1 : Int32)) X hret hf hM (lv_sub hl [] rfl)
  · replace hf := m_ifF hf cc1
    refine lv_iconst (v := (1 : Int32)) hx hb dX5_readPassed_9 (by decide) ?_
    obtain ⟨cd, hf⟩ := m_chkE hf
    cases hf
    exact hret H locs _ ls hM (m_nb cd) dX5_readPassed_10
def f_X5_readPassed (x0 : Nat) (x1 : Nat) (S : ZS) : Option (Int32 × ZS) := f_X5_readPassed_0 x0 x1 S
theorem c_X5_readPassed {l : Launch} {D : va_G} {y : Nat → ClassId} {x0 : Nat} {x1 : Nat} {S : ZS} {o : Int32 × ZS} (hf : f_X5_readPassed x0 x1 S = some o) : zMi l yX5_readPassed wsX5_readPassed ({ frames := 2, cells := 0, slots := 0, locals := 42 } : Room) [.ref x0, .ref x1] D y S o :=
  z_entryI (own := RX5) (cc := cX5_readPassed) (maxL := 2) (by decide) rfl rfl (Nat.le_of_ble_eq_true rfl) (fun p e s m args below meth c A0 Q H locs ls X hret hM hl => w_X5_readPassed_0 X hret hf hM (lv_sub hl [0, 1] rfl))
theorem hd_X5_readPassed : yX5_readPassed.cls = RX5 ∧ yX5_readPassed.cls ≠ "java/lang/invoke/MethodHandle" ∧ yX5_readPassed.cls ≠ "java/lang/invoke/VarHandle" ∧ (parseMethodDescriptor yX5_readPassed.desc).map (fun d => d.parameters.length) = some 1 := by decide +kernel
theorem fl_X5_readNumber_5_0 : Cond.fieldLink RX5 12 "MoveTexts$PositionReader" "text" "LMoveTexts$Row;" ∈ wsX5_readNumber := by decide +kernel
theorem fl_X5_readNumber_5_1 : Cond.fieldLink RX5 18 "MoveTexts$PositionReader" "at" "I" ∈ wsX5_readNumber := by decide +kernel
theorem hw_X5_readNumber_5 : ∀ w ∈ wsX50, w ∈ wsX5_readNumber := by decide +kernel
theorem nn_X5_readNumber_109 : ((RX5, 109, yX11_isDigit, "MoveTexts") ∈ zNW ∧ Cond.initialized yX11_isDigit.cls ∈ wsX5_readNumber) ∧ Cond.static yX11_isDigit ∈ wsX5_readNumber := by decide +kernel
def f_X5_readNumber_113 (t0 : Int32) (S : ZS) : Option (Int32 × ZS) :=
  some (t0, S)

set_option maxRecDepth 100000 in
set_option maxHeartbeats 4000000 in
theorem w_X5_readNumber_113 {p : Program} {l : Launch} {e : Env} {s : State} {m : MethodId} {args : Array Value} {below : List Frame} {meth : Method} {c : Code} {Q : State → Prop} {D : va_G} {y : Nat → ClassId} {A0 : Nat → Prop} {o : Int32 × ZS} (X : CallFix p m c cX5_readNumber 4 s args wsX5_readNumber RX5) (hret : zRi p l e ({ frames := 1, cells := 0, slots := 0, locals := 21 } : Room) s m args below meth c Q cX5_readNumber D y A0 .int o) {t0 : Int32} {S : ZS} {H : Heap} {locs : List Loc} {ls : Array Slot} (hf : f_X5_readNumber_113 t0 S = some o) (hM : zH D y A0 s H locs S) (hl : lv_has ls 4 []) : W p l e ({ frames := 1, cells := 0, slots := 0, locals := 21 } : Room) s m args below meth c H locs 0 0 Q (F0 m 113 ls [.int t0]) := by
  obtain ⟨hx, hb, hml, hown, hts⟩ := id X
  unfold f_X5_readNumber_113 at hf
  cases hf
  exact hret H locs _ ls hM rfl dX5_readNumber_113
def f_X5_readNumber_108 (S : ZS) : Option (Int32 × ZS) :=
  f_X5_readNumber_113 (-1 : Int32) S

set_option maxRecDepth 100000 in
set_option maxHeartbeats 4000000 in
theorem w_X5_readNumber_108 {p : Program} {l : Launch} {e : Env} {s : State} {m : MethodId} {args : Array Value} {below : List Frame} {meth : Method} {c : Code} {Q : State → Prop} {D : va_G} {y : Nat → ClassId} {A0 : Nat → Prop} {o : Int32 × ZS} (X : CallFix p m c cX5_readNumber 4 s args wsX5_readNumber RX5) (hret : zRi p l e ({ frames := 1, cells := 0, slots := 0, locals := 21 } : Room) s m args below meth c Q cX5_readNumber D y A0 .int o) {S : ZS} {H : Heap} {locs : List Loc} {ls : Array Slot} (hf : f_X5_readNumber_108  S = some o) (hM : zH D y A0 s H locs S) (hl : lv_has ls 4 []) : W p l e ({ frames := 1, cells := 0, slots := 0, locals := 21 } : Room) s m args below meth c H locs 0 0 Q (F0 m 108 ls []) := by
  obtain ⟨hx, hb, hml, hown, hts⟩ := id X
  unfold f_X5_readNumber_108 at hf
  refine lv_iconst (v := (-1 : Int32)) hx hb dX5_readNumber_108 (by decide) ?_
  refine lv_goto (tgt := 113) hx hb dX5_readNumber_109 (by decide) ?_
  exact w_X5_readNumber_113 (t0 := (-1 : Int32)) X hret hf hM (lv_sub hl [] rfl)
def f_X5_readNumber_95 (x0 : Nat) (x1 : Int32) (x2 : Int32) (t0 : Int32) (S : ZS) : Option (Int32 × ZS) :=
  m_chk (x0 ∈ zL S ∧ zK S x0 = 5) (
  m_if ((zI S 1 x0) = x1) (
  f_X5_readNumber_108  S
  ) (
  m_if (t0 = 0) (
  f_X5_readNumber_113 x2 S
  ) (
  f_X5_readNumber_108  S
  )
  ))

set_option maxRecDepth 100000 in
set_option maxHeartbeats 4000000 in
theorem w_X5_readNumber_95 {p : Program} {l : Launch} {e : Env} {s : State} {m : MethodId} {args : Array Value} {below : List Frame} {meth : Method} {c : Code} {Q : State → Prop} {D : va_G} {y : Nat → ClassId} {A0 : Nat → Prop} {o : Int32 × ZS} (X : CallFix p m c cX5_readNumber 4 s args wsX5_readNumber RX5) (hret : zRi p l e ({ frames := 1, cells := 0, slots := 0, locals := 21 } : Room) s m args below meth c Q cX5_readNumber D y A0 .int o) {x0 : Nat} {x1 : Int32} {x2 : Int32} {t0 : Int32} {S : ZS} {H : Heap} {locs : List Loc} {ls : Array Slot} (hf : f_X5_readNumber_95 x0 x1 x2 t0 S = some o) (hM : zH D y A0 s H locs S) (hl : lv_has ls 4 [(0, .ref x0), (1, .int x1), (2, .int x2)]) : W p l e ({ frames := 1, cells := 0, slots := 0, locals := 21 } : Room) s m args below meth c H locs 0 0 Q (F0 m 95 ls [.int t0]) := by
  obtain ⟨hx, hb, hml, hown, hts⟩ := id X
  unfold f_X5_readNumber_95 at hf
  refine lv_istore_n (lv' := [(3, .int t0), (0, .ref x0), (1, .int x1), (2, .int x2)]) hx hb dX5_readNumber_95 rfl hl (by decide) rfl (fun ls hl => ?_)
  refine lv_aload_n hx hb dX5_readNumber_96 rfl (lv_at hl 1 rfl) ?_
  obtain ⟨ca, hf⟩ := m_chkE hf
  refine z_get (k := 5) (j := 1) (C := RX5) (T := TX5) (N := 2) (fl := zf_5) (v := .int (zI S 1 x0)) X hw_X5_readNumber_5 hM rfl zc_5 ca (by decide) fl_X5_readNumber_5_1 rfl dX5_readNumber_97 ?_
  clear ca
  refine lv_iload_n hx hb dX5_readNumber_100 rfl (lv_at hl 2 rfl) ?_
  refine lv_icmp_eq (tgt := 108) hx hb dX5_readNumber_101 (by decide) (fun cc1 => ?_) (fun cc1 => ?_)
  · replace hf := m_ifT hf cc1
    exact w_X5_readNumber_108 X hret hf hM (lv_sub hl [] rfl)
  · replace hf := m_ifF hf cc1
    refine lv_iload_n hx hb dX5_readNumber_104 rfl (lv_at hl 0 rfl) ?_
    refine lv_if_eq (tgt := 112) hx hb dX5_readNumber_105 (by decide) (fun cc1 => ?_) (fun cc1 => ?_)
    · replace hf := m_ifT hf cc1
      refine lv_iload_n hx hb dX5_readNumber_112 rfl (lv_at hl 3 rfl) ?_
      exact w_X5_readNumber_113 (t0 := x2) X hret hf hM (lv_sub hl [] rfl)
    · replace hf := m_ifF hf cc1
      exact w_X5_readNumber_108 X hret hf hM (lv_sub hl [] rfl)
def f_X5_readNumber_94 (x0 : Nat) (x1 : Int32) (x2 : Int32) (S : ZS) : Option (Int32 × ZS) :=
  f_X5_readNumber_95 x0 x1 x2 (0 : Int32) S

set_option maxRecDepth 100000 in
set_option maxHeartbeats 4000000 in
theorem w_X5_readNumber_94 {p : Program} {l : Launch} {e : Env} {s : State} {m : MethodId} {args : Array Value} {below : List Frame} {meth : Method} {c : Code} {Q : State → Prop} {D : va_G} {y : Nat → ClassId} {A0 : Nat → Prop} {o : Int32 × ZS} (X : CallFix p m c cX5_readNumber 4 s args wsX5_readNumber RX5) (hret : zRi p l e ({ frames := 1, cells := 0, slots := 0, locals := 21 } : Room) s m args below meth c Q cX5_readNumber D y A0 .int o) {x0 : Nat} {x1 : Int32} {x2 : Int32} {S : ZS} {H : Heap} {locs : List Loc} {ls : Array Slot} (hf : f_X5_readNumber_94 x0 x1 x2 S = some o) (hM : zH D y A0 s H locs S) (hl : lv_has ls 4 [(0, .ref x0), (1, .int x1), (2, .int x2)]) : W p l e ({ frames := 1, cells := 0, slots := 0, locals := 21 } : Room) s m args below meth c H locs 0 0 Q (F0 m 94 ls []) := by
  obtain ⟨hx, hb, hml, hown, hts⟩ := id X
  unfold f_X5_readNumber_94 at hf
  refine lv_iconst (v := (0 : Int32)) hx hb dX5_readNumber_94 (by decide) ?_
  exact w_X5_readNumber_95 (x0 := x0) (x1 := x1) (x2 := x2) (t0 := (0 : Int32)) X hret hf hM (lv_sub hl [0, 1, 2] rfl)
def f_X5_readNumber_67 (x0 : Nat) (x1 : Int32) (x2 : Int32) (S : ZS) : Option (Int32 × ZS) :=
  m_chk (x0 ∈ zL S ∧ zK S x0 = 5) (
  m_cal (zP S 0 x0) (fun b1 =>
  m_chk (b1 ∈ zL S ∧ zK S b1 = 6) (
  m_cal (f_X6_at b1 x1 S) (fun o2 =>
  m_if (o2.1 = (48 : Int32)) (
  m_chk (x0 ∈ zL o2.2 ∧ zK o2.2 x0 = 5) (
  m_bnd (x1 + (1 : Int32)) (fun v3 =>
  m_if ((zI o2.2 1 x0) ≤ v3) (
  f_X5_readNumber_94 x0 x1 x2 o2.2
  ) (
  f_X5_readNumber_95 x0 x1 x2 (1 : Int32) o2.2
  )))
  ) (
  f_X5_readNumber_94 x0 x1 x2 o2.2
  )))))

set_option maxRecDepth 100000 in
set_option maxHeartbeats 4000000 in
theorem w_X5_readNumber_67 {p : Program} {l : Launch} {e : Env} {s : State} {m : MethodId} {args : Array Value} {below : List Frame} {meth : Method} {c : Code} {Q : State → Prop} {D : va_G} {y : Nat → ClassId} {A0 : Nat → Prop} {o : Int32 × ZS} (X : CallFix p m c cX5_readNumber 4 s args wsX5_readNumber RX5) (hret : zRi p l e ({ frames := 1, cells := 0, slots := 0, locals := 21 } : Room) s m args below meth c Q cX5_readNumber D y A0 .int o) {x0 : Nat} {x1 : Int32} {x2 : Int32} {S : ZS} {H : Heap} {locs : List Loc} {ls : Array Slot} (hf : f_X5_readNumber_67 x0 x1 x2 S = some o) (hM : zH D y A0 s H locs S) (hl : lv_has ls 4 [(0, .ref x0), (1, .int x1), (2, .int x2)]) : W p l e ({ frames := 1, cells := 0, slots := 0, locals := 21 } : Room) s m args below meth c H locs 0 0 Q (F0 m 67 ls []) := by
  obtain ⟨hx, hb, hml, hown, hts⟩ := id X
  unfold f_X5_readNumber_67 at hf
  refine lv_aload_n hx hb dX5_readNumber_67 rfl (lv_at hl 0 rfl) ?_
  obtain ⟨ca, hf⟩ := m_chkE hf
  refine z_get (k := 5) (j := 0) (C := RX5) (T := TX5) (N := 2) (fl := zf_5) (v := va_rf (zP S 0 x0)) X hw_X5_readNumber_5 hM rfl zc_5 ca (by decide) fl_X5_readNumber_5_0 rfl dX5_readNumber_68 ?_
  clear ca
  obtain ⟨b1, hb9, hf⟩ := m_calE hf
  refine z_topr hb9 ?_
  clear hb9
  refine lv_iload_n hx hb dX5_readNumber_71 rfl (lv_at hl 1 rfl) ?_
  obtain ⟨ca, hf⟩ := m_chkE hf
  obtain ⟨o2, ho, hf⟩ := m_calE hf
  refine z_callVi (k := 6) (C := RX6) (T := TX6) (N := 2) (fl := zf_6) X hM rfl zc_6 ca (c_X6_at ho) gX5_readNumber_X6_at rfl ⟨rfl, rfl⟩ hd_X6_at ⟨Nat.le_of_ble_eq_true rfl, Nat.le_of_ble_eq_true rfl⟩ rfl hl.1 rfl (Nat.le_of_ble_eq_true rfl) dX5_readNumber_72 (fun H locs hM => ?_)
  clear ho
  refine lv_bipush (v := (48 : Int32)) hx hb dX5_readNumber_75 (by decide) ?_
  refine lv_icmp_ne (tgt := 94) hx hb dX5_readNumber_77 (by decide) (fun cc1 => ?_) (fun cc1 => ?_)
  · replace hf := m_ifF hf cc1
    exact w_X5_readNumber_94 (x0 := x0) (x1 := x1) (x2 := x2) X hret hf hM (lv_sub hl [0, 1, 2] rfl)
  · replace hf := m_ifT hf cc1
    refine lv_aload_n hx hb dX5_readNumber_80 rfl (lv_at hl 0 rfl) ?_
    obtain ⟨ca, hf⟩ := m_chkE hf
    refine z_get (k := 5) (j := 1) (C := RX5) (T := TX5) (N := 2) (fl := zf_5) (v := .int (zI o2.2 1 x0)) X hw_X5_readNumber_5 hM rfl zc_5 ca (by decide) fl_X5_readNumber_5_1 rfl dX5_readNumber_81 ?_
    clear ca
    refine lv_iload_n hx hb dX5_readNumber_84 rfl (lv_at hl 1 rfl) ?_
    refine lv_iconst (v := (1 : Int32)) hx hb dX5_readNumber_85 (by decide) ?_
    refine lv_iadd hx hb dX5_readNumber_86 ?_
    obtain ⟨v3, ev, hf⟩ := m_bndE hf
    refine m_top ev ?_
    clear ev
    refine lv_icmp_le (tgt := 94) hx hb dX5_readNumber_87 (by decide) (fun cc1 => ?_) (fun cc1 => ?_)
    · replace hf := m_ifT hf cc1
      exact w_X5_readNumber_94 (x0 := x0) (x1 := x1) (x2 := x2) X hret hf hM (lv_sub hl [0, 1, 2] rfl)
    · replace hf := m_ifF hf cc1
      refine lv_iconst (v := (1 : Int32)) hx hb dX5_readNumber_90 (by decide) ?_
      refine lv_goto (tgt := 95) hx hb dX5_readNumber_91 (by decide) ?_
      exact w_X5_readNumber_95 (x0 := x0) (x1 := x1) (x2 := x2) (t0 := (1 : Int32)) X hret hf hM (lv_sub hl [0, 1, 2] rfl)
def f_X5_readNumber_7s (self7 : Nat → Int32 → Int32 → ZS → Option (Int32 × ZS)) (x0 : Nat) (x1 : Int32) (x2 : Int32) (S : ZS) : Option (Int32 × ZS) :=
  m_chk (x0 ∈ zL S ∧ zK S x0 = 5) (
  m_bnd (x1 + (3 : Int32)) (fun v1 =>
  m_if (v1 ≤ (zI S 1 x0)) (
  f_X5_readNumber_67 x0 x1 x2 S
  ) (
  m_chk (x0 ∈ zL S ∧ zK S x0 = 5) (
  m_cal (zP S 0 x0) (fun b2 =>
  m_chk (x0 ∈ zL S ∧ zK S x0 = 5) (
  m_chk (b2 ∈ zL S ∧ zK S b2 = 6) (
  m_cal (f_X6_at b2 (zI S 1 x0) S) (fun o3 =>
  m_cal (f_X11_isDigit o3.1 o3.2) (fun o4 =>
  m_if (o4.1 = 0) (
  f_X5_readNumber_67 x0 x1 x2 o4.2
  ) (
  m_bnd ((10 : Int32) * x2) (fun v5 =>
  m_chk (x0 ∈ zL o4.2 ∧ zK o4.2 x0 = 5) (
  m_cal (zP o4.2 0 x0) (fun b6 =>
  m_chk (x0 ∈ zL o4.2 ∧ zK o4.2 x0 = 5) (
  m_chk (b6 ∈ zL o4.2 ∧ zK o4.2 b6 = 6) (
  m_cal (f_X6_at b6 (zI o4.2 1 x0) o4.2) (fun o7 =>
  m_bnd (v5 + o7.1) (fun v8 =>
  m_bnd (v8 - (48 : Int32)) (fun v9 =>
  m_chk (x0 ∈ zL o7.2 ∧ zK o7.2 x0 = 5) (
  m_bnd ((zI o7.2 1 x0) + (1 : Int32)) (fun v10 =>
  m_chk (x0 ∈ zL o7.2 ∧ zK o7.2 x0 = 5) (
  m_bnd (zsI o7.2 1 x0 v10) (fun S11 =>
  self7 x0 x1 v9 S11))))))))))))
  )))))))
  )))

set_option maxRecDepth 100000 in
set_option maxHeartbeats 4000000 in
theorem ws_X5_readNumber_7 {p : Program} {l : Launch} {e : Env} {s : State} {m : MethodId} {args : Array Value} {below : List Frame} {meth : Method} {c : Code} {Q : State → Prop} {D : va_G} {y : Nat → ClassId} {A0 : Nat → Prop} {o : Int32 × ZS} (X : CallFix p m c cX5_readNumber 4 s args wsX5_readNumber RX5) (hret : zRi p l e ({ frames := 1, cells := 0, slots := 0, locals := 21 } : Room) s m args below meth c Q cX5_readNumber D y A0 .int o) {self7 : Nat → Int32 → Int32 → ZS → Option (Int32 × ZS)} (hself7 : ∀ (x0 : Nat) (x1 : Int32) (x2 : Int32) (S : ZS) (H : Heap) (locs : List Loc) (ls : Array Slot), self7 x0 x1 x2 S = some o → zH D y A0 s H locs S → lv_has ls 4 [(0, .ref x0), (1, .int x1), (2, .int x2)] → W p l e ({ frames := 1, cells := 0, slots := 0, locals := 21 } : Room) s m args below meth c H locs 0 0 Q (F0 m 7 ls [])) {x0 : Nat} {x1 : Int32} {x2 : Int32} {S : ZS} {H : Heap} {locs : List Loc} {ls : Array Slot} (hf : f_X5_readNumber_7s self7 x0 x1 x2 S = some o) (hM : zH D y A0 s H locs S) (hl : lv_has ls 4 [(0, .ref x0), (1, .int x1), (2, .int x2)]) : W p l e ({ frames := 1, cells := 0, slots := 0, locals := 21 } : Room) s m args below meth c H locs 0 0 Q (F0 m 7 ls []) := by
  obtain ⟨hx, hb, hml, hown, hts⟩ := id X
  unfold f_X5_readNumber_7s at hf
  refine lv_aload_n hx hb dX5_readNumber_7 rfl (lv_at hl 0 rfl) ?_
  obtain ⟨ca, hf⟩ := m_chkE hf
  refine z_get (k := 5) (j := 1) (C := RX5) (T := TX5) (N := 2) (fl := zf_5) (v := .int (zI S 1 x0)) X hw_X5_readNumber_5 hM rfl zc_5 ca (by decide) fl_X5_readNumber_5_1 rfl dX5_readNumber_8 ?_
  clear ca
  refine lv_iload_n hx hb dX5_readNumber_11 rfl (lv_at hl 1 rfl) ?_
  refine lv_iconst (v := (3 : Int32)) hx hb dX5_readNumber_12 (by decide) ?_
  refine lv_iadd hx hb dX5_readNumber_13 ?_
  obtain ⟨v1, ev, hf⟩ := m_bndE hf
  refine m_top ev ?_
  clear ev
  refine lv_icmp_ge (tgt := 67) hx hb dX5_readNumber_14 (by decide) (fun cc1 => ?_) (fun cc1 => ?_)
  · replace hf := m_ifT hf cc1
    exact w_X5_readNumber_67 (x0 := x0) (x1 := x1) (x2 := x2) X hret hf hM (lv_sub hl [0, 1, 2] rfl)
  · replace hf := m_ifF hf cc1
    refine lv_aload_n hx hb dX5_readNumber_17 rfl (lv_at hl 0 rfl) ?_
    obtain ⟨ca, hf⟩ := m_chkE hf
    refine z_get (k := 5) (j := 0) (C := RX5) (T := TX5) (N := 2) (fl := zf_5) (v := va_rf (zP S 0 x0)) X hw_X5_readNumber_5 hM rfl zc_5 ca (by decide) fl_X5_readNumber_5_0 rfl dX5_readNumber_18 ?_
    clear ca
    obtain ⟨b2, hb9, hf⟩ := m_calE hf
    refine z_topr hb9 ?_
    clear hb9
    refine lv_aload_n hx hb dX5_readNumber_21 rfl (lv_at hl 0 rfl) ?_
    obtain ⟨ca, hf⟩ := m_chkE hf
    refine z_get (k := 5) (j := 1) (C := RX5) (T := TX5) (N := 2) (fl := zf_5) (v := .int (zI S 1 x0)) X hw_X5_readNumber_5 hM rfl zc_5 ca (by decide) fl_X5_readNumber_5_1 rfl dX5_readNumber_22 ?_
    clear ca
    obtain ⟨ca, hf⟩ := m_chkE hf
    obtain ⟨o3, ho, hf⟩ := m_calE hf
    refine z_callVi (k := 6) (C := RX6) (T := TX6) (N := 2) (fl := zf_6) X hM rfl zc_6 ca (c_X6_at ho) gX5_readNumber_X6_at rfl ⟨rfl, rfl⟩ hd_X6_at ⟨Nat.le_of_ble_eq_true rfl, Nat.le_of_ble_eq_true rfl⟩ rfl hl.1 rfl (Nat.le_of_ble_eq_true rfl) dX5_readNumber_25 (fun H locs hM => ?_)
    clear ho
    obtain ⟨o4, ho, hf⟩ := m_calE hf
    refine z_callSNi X hM (c_X11_isDigit ho) gX5_readNumber_X11_isDigit_n109 nn_X5_readNumber_109.1.1 nn_X5_readNumber_109.1.2 nn_X5_readNumber_109.2 rfl ⟨rfl, rfl⟩ hd_X11_isDigit ⟨Nat.le_of_ble_eq_true rfl, Nat.le_of_ble_eq_true rfl⟩ rfl hl.1 rfl (Nat.le_of_ble_eq_true rfl) dX5_readNumber_28 (fun H locs hM => ?_)
    clear ho
    refine lv_if_eq (tgt := 67) hx hb dX5_readNumber_31 (by decide) (fun cc1 => ?_) (fun cc1 => ?_)
    · replace hf := m_ifT hf cc1
      exact w_X5_readNumber_67 (x0 := x0) (x1 := x1) (x2 := x2) X hret hf hM (lv_sub hl [0, 1, 2] rfl)
    · replace hf := m_ifF hf cc1
      refine lv_bipush (v := (10 : Int32)) hx hb dX5_readNumber_34 (by decide) ?_
      refine lv_iload_n hx hb dX5_readNumber_36 rfl (lv_at hl 2 rfl) ?_
      refine lv_imul hx hb dX5_readNumber_37 ?_
      obtain ⟨v5, ev, hf⟩ := m_bndE hf
      refine m_top ev ?_
      clear ev
      refine lv_aload_n hx hb dX5_readNumber_38 rfl (lv_at hl 0 rfl) ?_
      obtain ⟨ca, hf⟩ := m_chkE hf
      refine z_get (k := 5) (j := 0) (C := RX5) (T := TX5) (N := 2) (fl := zf_5) (v := va_rf (zP o4.2 0 x0)) X hw_X5_readNumber_5 hM rfl zc_5 ca (by decide) fl_X5_readNumber_5_0 rfl dX5_readNumber_39 ?_
      clear ca
      obtain ⟨b6, hb9, hf⟩ := m_calE hf
      refine z_topr hb9 ?_
      clear hb9
      refine lv_aload_n hx hb dX5_readNumber_42 rfl (lv_at hl 0 rfl) ?_
      obtain ⟨ca, hf⟩ := m_chkE hf
      refine z_get (k := 5) (j := 1) (C := RX5) (T := TX5) (N := 2) (fl := zf_5) (v := .int (zI o4.2 1 x0)) X hw_X5_readNumber_5 hM rfl zc_5 ca (by decide) fl_X5_readNumber_5_1 rfl dX5_readNumber_43 ?_
      clear ca
      obtain ⟨ca, hf⟩ := m_chkE hf
      obtain ⟨o7, ho, hf⟩ := m_calE hf
      refine z_callVi (k := 6) (C := RX6) (T := TX6) (N := 2) (fl := zf_6) X hM rfl zc_6 ca (c_X6_at ho) gX5_readNumber_X6_at rfl ⟨rfl, rfl⟩ hd_X6_at ⟨Nat.le_of_ble_eq_true rfl, Nat.le_of_ble_eq_true rfl⟩ rfl hl.1 rfl (Nat.le_of_ble_eq_true rfl) dX5_readNumber_46 (fun H locs hM => ?_)
      clear ho
      refine lv_iadd hx hb dX5_readNumber_49 ?_
      obtain ⟨v8, ev, hf⟩ := m_bndE hf
      refine m_top ev ?_
      clear ev
      refine lv_bipush (v := (48 : Int32)) hx hb dX5_readNumber_50 (by decide) ?_
      refine lv_isub hx hb dX5_readNumber_52 ?_
      obtain ⟨v9, ev, hf⟩ := m_bndE hf
      refine m_top ev ?_
      clear ev
      refine lv_istore_n (lv' := [(2, .int v9), (0, .ref x0), (1, .int x1)]) hx hb dX5_readNumber_53 rfl hl (by decide) rfl (fun ls hl => ?_)
      refine lv_aload_n hx hb dX5_readNumber_54 rfl (lv_at hl 1 rfl) ?_
      refine lv_dup hx hb dX5_readNumber_55 rfl ?_
      obtain ⟨ca, hf⟩ := m_chkE hf
      refine z_get (k := 5) (j := 1) (C := RX5) (T := TX5) (N := 2) (fl := zf_5) (v := .int (zI o7.2 1 x0)) X hw_X5_readNumber_5 hM rfl zc_5 ca (by decide) fl_X5_readNumber_5_1 rfl dX5_readNumber_56 ?_
      clear ca
      refine lv_iconst (v := (1 : Int32)) hx hb dX5_readNumber_59 (by decide) ?_
      refine lv_iadd hx hb dX5_readNumber_60 ?_
      obtain ⟨v10, ev, hf⟩ := m_bndE hf
      refine m_top ev ?_
      clear ev
      obtain ⟨ca, hf⟩ := m_chkE hf
      refine z_putI (k := 5) (j := 1) (C := RX5) (T := TX5) (N := 2) (fl := zf_5) (ty := .int) X hw_X5_readNumber_5 tyX5_ok nmX5 hM rfl zc_5 ca (by decide) fl_X5_readNumber_5_1 rfl (tyX5_ok 1 (by decide)) rfl rfl zi_5_1 (Nat.le_of_ble_eq_true rfl) dX5_readNumber_61 (fun H locs hM => ?_)
      clear ca
      obtain ⟨S11, ev, hf⟩ := m_bndE hf
      replace hM := z_hS hM ev
      clear ev
      refine lv_goto (tgt := 7) hx hb dX5_readNumber_64 (by decide) ?_
      exact hself7 x0 x1 v9 _ _ _ _ hf hM (lv_sub hl [1, 2, 0] rfl)
def f_X5_readNumber_7 : Nat → Nat → Int32 → Int32 → ZS → Option (Int32 × ZS)
  | 0 => fun _ _ _ _ => none
  | n + 1 => f_X5_readNumber_7s (f_X5_readNumber_7 n)
theorem w_X5_readNumber_7 {p : Program} {l : Launch} {e : Env} {s : State} {m : MethodId} {args : Array Value} {below : List Frame} {meth : Method} {c : Code} {Q : State → Prop} {D : va_G} {y : Nat → ClassId} {A0 : Nat → Prop} {o : Int32 × ZS} (X : CallFix p m c cX5_readNumber 4 s args wsX5_readNumber RX5) (hret : zRi p l e ({ frames := 1, cells := 0, slots := 0, locals := 21 } : Room) s m args below meth c Q cX5_readNumber D y A0 .int o) (n : Nat) : ∀ (x0 : Nat) (x1 : Int32) (x2 : Int32) (S : ZS) (H : Heap) (locs : List Loc) (ls : Array Slot), f_X5_readNumber_7 n x0 x1 x2 S = some o → zH D y A0 s H locs S → lv_has ls 4 [(0, .ref x0), (1, .int x1), (2, .int x2)] → W p l e ({ frames := 1, cells := 0, slots := 0, locals := 21 } : Room) s m args below meth c H locs 0 0 Q (F0 m 7 ls []) := by
  induction n with
  | zero => intro x0 x1 x2 S H locs ls hf; cases hf
  | succ n ih => intro x0 x1 x2 S H locs ls hf hM hl; exact ws_X5_readNumber_7 X hret (self7 := f_X5_readNumber_7 n) ih hf hM hl
def f_X5_readNumber_0 (x0 : Nat) (S : ZS) : Option (Int32 × ZS) :=
  m_chk (x0 ∈ zL S ∧ zK S x0 = 5) (
  f_X5_readNumber_7 mFuel x0 (zI S 1 x0) (0 : Int32) S)

set_option maxRecDepth 100000 in
set_option maxHeartbeats 4000000 in
theorem w_X5_readNumber_0 {p : Program} {l : Launch} {e : Env} {s : State} {m : MethodId} {args : Array Value} {below : List Frame} {meth : Method} {c : Code} {Q : State → Prop} {D : va_G} {y : Nat → ClassId} {A0 : Nat → Prop} {o : Int32 × ZS} (X : CallFix p m c cX5_readNumber 4 s args wsX5_readNumber RX5) (hret : zRi p l e ({ frames := 1, cells := 0, slots := 0, locals := 21 } : Room) s m args below meth c Q cX5_readNumber D y A0 .int o) {x0 : Nat} {S : ZS} {H : Heap} {locs : List Loc} {ls : Array Slot} (hf : f_X5_readNumber_0 x0 S = some o) (hM : zH D y A0 s H locs S) (hl : lv_has ls 4 [(0, .ref x0)]) : W p l e ({ frames := 1, cells := 0, slots := 0, locals := 21 } : Room) s m args below meth c H locs 0 0 Q (F0 m 0 ls []) := by
  obtain ⟨hx, hb, hml, hown, hts⟩ := id X
  unfold f_X5_readNumber_0 at hf
  refine lv_aload_n hx hb dX5_readNumber_0 rfl (lv_at hl 0 rfl) ?_
  obtain ⟨ca, hf⟩ := m_chkE hf
  refine z_get (k := 5) (j := 1) (C := RX5) (T := TX5) (N := 2) (fl := zf_5) (v := .int (zI S 1 x0)) X hw_X5_readNumber_5 hM rfl zc_5 ca (by decide) fl_X5_readNumber_5_1 rfl dX5_readNumber_1 ?_
  clear ca
  refine lv_istore_n (lv' := [(1, .int (zI S 1 x0)), (0, .ref x0)]) hx hb dX5_readNumber_4 rfl hl (by decide) rfl (fun ls hl => ?_)
  refine lv_iconst (v := (0 : Int32)) hx hb dX5_readNumber_5 (by decide) ?_
  refine lv_istore_n (lv' := [(2, .int (0 : Int32)), (1, .int (zI S 1 x0)), (0, .ref x0)]) hx hb dX5_readNumber_6 rfl hl (by decide) rfl (fun ls hl => ?_)
  exact w_X5_readNumber_7 X hret _ x0 (zI S 1 x0) (0 : Int32) _ _ _ _ hf hM (lv_sub hl [2, 1, 0] rfl)
def f_X5_readNumber (x0 : Nat) (S : ZS) : Option (Int32 × ZS) := f_X5_readNumber_0 x0 S
theorem c_X5_readNumber {l : Launch} {D : va_G} {y : Nat → ClassId} {x0 : Nat} {S : ZS} {o : Int32 × ZS} (hf : f_X5_readNumber x0 S = some o) : zMi l yX5_readNumber wsX5_readNumber ({ frames := 1, cells := 0, slots := 0, locals := 21 } : Room) [.ref x0] D y S o :=
  z_entryI (own := RX5) (cc := cX5_readNumber) (maxL := 4) (by decide) rfl rfl (Nat.le_of_ble_eq_true rfl) (fun p e s m args below meth c A0 Q H locs ls X hret hM hl => w_X5_readNumber_0 X hret hf hM (lv_sub hl [0] rfl))
theorem hd_X5_readNumber : yX5_readNumber.cls = RX5 ∧ yX5_readNumber.cls ≠ "java/lang/invoke/MethodHandle" ∧ yX5_readNumber.cls ≠ "java/lang/invoke/VarHandle" ∧ (parseMethodDescriptor yX5_readNumber.desc).map (fun d => d.parameters.length) = some 0 := by decide +kernel
