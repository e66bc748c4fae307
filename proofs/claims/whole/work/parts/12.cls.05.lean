theorem fl_X7_checkSign_0_3 : Cond.fieldLink RX7 21 "MoveTexts$Board" "side" "I" ∈ wsX7_checkSign := by decide +kernel
theorem fl_X7_checkSign_7_1 : Cond.fieldLink RX7 18 "MoveTexts$Rules" "after" "LMoveTexts$Board;" ∈ wsX7_checkSign := by decide +kernel
theorem hw_X7_checkSign_0 : ∀ w ∈ wsX00, w ∈ wsX7_checkSign := by decide +kernel
theorem hw_X7_checkSign_7 : ∀ w ∈ wsX70, w ∈ wsX7_checkSign := by decide +kernel
def f_X7_checkSign_103 (self53 : Nat → Int32 → ZS → Option (Int32 × ZS)) (self62 : Nat → Int32 → Int32 → ZS → Option (Int32 × ZS)) (x0 : Nat) (x3 : Int32) (x4 : Int32) (S : ZS) : Option (Int32 × ZS) :=
  m_bnd (x4 + (1 : Int32)) (fun v1 =>
  self62 x0 x3 v1 S)

set_option maxRecDepth 100000 in
set_option maxHeartbeats 4000000 in
theorem w_X7_checkSign_103 {p : Program} {l : Launch} {e : Env} {s : State} {m : MethodId} {args : Array Value} {below : List Frame} {meth : Method} {c : Code} {Q : State → Prop} {D : va_G} {y : Nat → ClassId} {A0 : Nat → Prop} {o : Int32 × ZS} (X : CallFix p m c cX7_checkSign 5 s args wsX7_checkSign RX7) (hret : zRi p l e ({ frames := 3, cells := 0, slots := 0, locals := 106 } : Room) s m args below meth c Q cX7_checkSign D y A0 .char o) {self53 : Nat → Int32 → ZS → Option (Int32 × ZS)} (hself53 : ∀ (x0 : Nat) (x3 : Int32) (S : ZS) (H : Heap) (locs : List Loc) (ls : Array Slot), self53 x0 x3 S = some o → zH D y A0 s H locs S → lv_has ls 5 [(0, .ref x0), (3, .int x3)] → W p l e ({ frames := 3, cells := 0, slots := 0, locals := 106 } : Room) s m args below meth c H locs 0 0 Q (F0 m 53 ls [])) {self62 : Nat → Int32 → Int32 → ZS → Option (Int32 × ZS)} (hself62 : ∀ (x0 : Nat) (x3 : Int32) (x4 : Int32) (S : ZS) (H : Heap) (locs : List Loc) (ls : Array Slot), self62 x0 x3 x4 S = some o → zH D y A0 s H locs S → lv_has ls 5 [(0, .ref x0), (3, .int x3), (4, .int x4)] → W p l e ({ frames := 3, cells := 0, slots := 0, locals := 106 } : Room) s m args below meth c H locs 0 0 Q (F0 m 62 ls [])) {x0 : Nat} {x3 : Int32} {x4 : Int32} {S : ZS} {H : Heap} {locs : List Loc} {ls : Array Slot} (hf : f_X7_checkSign_103 self53 self62 x0 x3 x4 S = some o) (hM : zH D y A0 s H locs S) (hl : lv_has ls 5 [(0, .ref x0), (3, .int x3), (4, .int x4)]) : W p l e ({ frames := 3, cells := 0, slots := 0, locals := 106 } : Room) s m args below meth c H locs 0 0 Q (F0 m 103 ls []) := by
  obtain ⟨hx, hb, hml, hown, hts⟩ := id X
  unfold f_X7_checkSign_103 at hf
  obtain ⟨v1, ev, hf⟩ := m_bndE hf
  refine lv_iinc (v := v1) (lv' := [(4, .int v1), (0, .ref x0), (3, .int x3)]) hx hb dX7_checkSign_103 hl (k := 2) rfl (by rw [ev]; rfl) (by decide) rfl (fun ls hl => ?_)
  clear ev
  refine lv_goto (tgt := 62) hx hb dX7_checkSign_106 (by decide) ?_
  exact hself62 x0 x3 v1 _ _ _ _ hf hM (lv_sub hl [1, 2, 0] rfl)
def f_X7_checkSign_62s (self53 : Nat → Int32 → ZS → Option (Int32 × ZS)) (self62 : Nat → Int32 → Int32 → ZS → Option (Int32 × ZS)) (x0 : Nat) (x3 : Int32) (x4 : Int32) (S : ZS) : Option (Int32 × ZS) :=
  m_if ((64 : Int32) ≤ x4) (
  m_bnd (x3 + (1 : Int32)) (fun v1 =>
  self53 x0 v1 S)
  ) (
  m_chk (x0 ∈ zL S ∧ zK S x0 = 7) (
  m_cal (zP S 1 x0) (fun b2 =>
  m_chk (b2 ∈ zL S ∧ zK S b2 = 0) (
  m_cal (f_X0_reaches b2 x3 x4 S) (fun o3 =>
  m_if (o3.1 = 0) (
  f_X7_checkSign_103 self53 self62 x0 x3 x4 o3.2
  ) (
  m_chk (x0 ∈ zL o3.2 ∧ zK o3.2 x0 = 7) (
  m_cal (zP o3.2 1 x0) (fun b4 =>
  m_bnd ((64 : Int32) * x4) (fun v5 =>
  m_bnd (x3 + v5) (fun v6 =>
  m_chk (x0 ∈ zL o3.2 ∧ zK o3.2 x0 = 7) (
  m_cal (f_X7_isSafe x0 b4 v6 o3.2) (fun o7 =>
  m_if (o7.1 = 0) (
  f_X7_checkSign_103 self53 self62 x0 x3 x4 o7.2
  ) (
  m_chk (vp_nar .char (43 : Int32) = (43 : Int32)) (some ((43 : Int32), o7.2))
  )))))))
  )))))
  )

set_option maxRecDepth 100000 in
set_option maxHeartbeats 4000000 in
theorem ws_X7_checkSign_62 {p : Program} {l : Launch} {e : Env} {s : State} {m : MethodId} {args : Array Value} {below : List Frame} {meth : Method} {c : Code} {Q : State → Prop} {D : va_G} {y : Nat → ClassId} {A0 : Nat → Prop} {o : Int32 × ZS} (X : CallFix p m c cX7_checkSign 5 s args wsX7_checkSign RX7) (hret : zRi p l e ({ frames := 3, cells := 0, slots := 0, locals := 106 } : Room) s m args below meth c Q cX7_checkSign D y A0 .char o) {self53 : Nat → Int32 → ZS → Option (Int32 × ZS)} (hself53 : ∀ (x0 : Nat) (x3 : Int32) (S : ZS) (H : Heap) (locs : List Loc) (ls : Array Slot), self53 x0 x3 S = some o → zH D y A0 s H locs S → lv_has ls 5 [(0, .ref x0), (3, .int x3)] → W p l e ({ frames := 3, cells := 0, slots := 0, locals := 106 } : Room) s m args below meth c H locs 0 0 Q (F0 m 53 ls [])) {self62 : Nat → Int32 → Int32 → ZS → Option (Int32 × ZS)} (hself62 : ∀ (x0 : Nat) (x3 : Int32) (x4 : Int32) (S : ZS) (H : Heap) (locs : List Loc) (ls : Array Slot), self62 x0 x3 x4 S = some o → zH D y A0 s H locs S → lv_has ls 5 [(0, .ref x0), (3, .int x3), (4, .int x4)] → W p l e ({ frames := 3, cells := 0, slots := 0, locals := 106 } : Room) s m args below meth c H locs 0 0 Q (F0 m 62 ls [])) {x0 : Nat} {x3 : Int32} {x4 : Int32} {S : ZS} {H : Heap} {locs : List Loc} {ls : Array Slot} (hf : f_X7_checkSign_62s self53 self62 x0 x3 x4 S = some o) (hM : zH D y A0 s H locs S) (hl : lv_has ls 5 [(0, .ref x0), (3, .int x3), (4, .int x4)]) : W p l e ({ frames := 3, cells := 0, slots := 0, locals := 106 } : Room) s m args below meth c H locs 0 0 Q (F0 m 62 ls []) := by
  obtain ⟨hx, hb, hml, hown, hts⟩ := id X
  unfold f_X7_checkSign_62s at hf
  refine lv_iload hx hb dX7_checkSign_62 (lv_at hl 2 rfl) ?_
  refine lv_bipush (v := (64 : Int32)) hx hb dX7_checkSign_64 (by decide) ?_
  refine lv_icmp_ge (tgt := 109) hx hb dX7_checkSign_66 (by decide) (fun cc1 => ?_) (fun cc1 => ?_)
  · replace hf := m_ifT hf cc1
    obtain ⟨v1, ev, hf⟩ := m_bndE hf
    refine lv_iinc (v := v1) (lv' := [(3, .int v1), (0, .ref x0), (4, .int x4)]) hx hb dX7_checkSign_109 hl (k := 1) rfl (by rw [ev]; rfl) (by decide) rfl (fun ls hl => ?_)
    clear ev
    refine lv_goto (tgt := 53) hx hb dX7_checkSign_112 (by decide) ?_
    exact hself53 x0 v1 _ _ _ _ hf hM (lv_sub hl [1, 0] rfl)
  · replace hf := m_ifF hf cc1
    refine lv_aload_n hx hb dX7_checkSign_69 rfl (lv_at hl 0 rfl) ?_
    obtain ⟨ca, hf⟩ := m_chkE hf
    refine z_get (k := 7) (j := 1) (C := RX7) (T := TX7) (N := 2) (fl := zf_7) (v := va_rf (zP S 1 x0)) X hw_X7_checkSign_7 hM rfl zc_7 ca (by decide) fl_X7_checkSign_7_1 rfl dX7_checkSign_70 ?_
    clear ca
    obtain ⟨b2, hb9, hf⟩ := m_calE hf
    refine z_topr hb9 ?_
    clear hb9
    refine lv_iload_n hx hb dX7_checkSign_73 rfl (lv_at hl 1 rfl) ?_
    refine lv_iload hx hb dX7_checkSign_74 (lv_at hl 2 rfl) ?_
    obtain ⟨ca, hf⟩ := m_chkE hf
    obtain ⟨o3, ho, hf⟩ := m_calE hf
    refine z_callVi (k := 0) (C := RX0) (T := TX0) (N := 7) (fl := zf_0) X hM rfl zc_0 ca (c_X0_reaches ho) gX7_checkSign_X0_reaches rfl ⟨rfl, rfl⟩ hd_X0_reaches ⟨Nat.le_of_ble_eq_true rfl, Nat.le_of_ble_eq_true rfl⟩ rfl hl.1 rfl (Nat.le_of_ble_eq_true rfl) dX7_checkSign_76 (fun H locs hM => ?_)
    clear ho
    refine lv_if_eq (tgt := 103) hx hb dX7_checkSign_79 (by decide) (fun cc1 => ?_) (fun cc1 => ?_)
    · replace hf := m_ifT hf cc1
      exact w_X7_checkSign_103 (x0 := x0) (x3 := x3) (x4 := x4) X hret hself53 hself62 hf hM (lv_sub hl [0, 1, 2] rfl)
    · replace hf := m_ifF hf cc1
      refine lv_aload_n hx hb dX7_checkSign_82 rfl (lv_at hl 0 rfl) ?_
      refine lv_aload_n hx hb dX7_checkSign_83 rfl (lv_at hl 0 rfl) ?_
      obtain ⟨ca, hf⟩ := m_chkE hf
      refine z_get (k := 7) (j := 1) (C := RX7) (T := TX7) (N := 2) (fl := zf_7) (v := va_rf (zP o3.2 1 x0)) X hw_X7_checkSign_7 hM rfl zc_7 ca (by decide) fl_X7_checkSign_7_1 rfl dX7_checkSign_84 ?_
      clear ca
      obtain ⟨b4, hb9, hf⟩ := m_calE hf
      refine z_topr hb9 ?_
      clear hb9
      refine lv_iload_n hx hb dX7_checkSign_87 rfl (lv_at hl 1 rfl) ?_
      refine lv_bipush (v := (64 : Int32)) hx hb dX7_checkSign_88 (by decide) ?_
      refine lv_iload hx hb dX7_checkSign_90 (lv_at hl 2 rfl) ?_
      refine lv_imul hx hb dX7_checkSign_92 ?_
      obtain ⟨v5, ev, hf⟩ := m_bndE hf
      refine m_top ev ?_
      clear ev
      refine lv_iadd hx hb dX7_checkSign_93 ?_
      obtain ⟨v6, ev, hf⟩ := m_bndE hf
      refine m_top ev ?_
      clear ev
      obtain ⟨ca, hf⟩ := m_chkE hf
      obtain ⟨o7, ho, hf⟩ := m_calE hf
      refine z_callVi (k := 7) (C := RX7) (T := TX7) (N := 2) (fl := zf_7) X hM rfl zc_7 ca (c_X7_isSafe ho) gX7_checkSign_X7_isSafe rfl ⟨rfl, rfl⟩ hd_X7_isSafe ⟨Nat.le_of_ble_eq_true rfl, Nat.le_of_ble_eq_true rfl⟩ rfl hl.1 rfl (Nat.le_of_ble_eq_true rfl) dX7_checkSign_94 (fun H locs hM => ?_)
      clear ho
      refine lv_if_eq (tgt := 103) hx hb dX7_checkSign_97 (by decide) (fun cc1 => ?_) (fun cc1 => ?_)
      · replace hf := m_ifT hf cc1
        exact w_X7_checkSign_103 (x0 := x0) (x3 := x3) (x4 := x4) X hret hself53 hself62 hf hM (lv_sub hl [0, 1, 2] rfl)
      · replace hf := m_ifF hf cc1
        refine lv_bipush (v := (43 : Int32)) hx hb dX7_checkSign_100 (by decide) ?_
        obtain ⟨cd, hf⟩ := m_chkE hf
        cases hf
        exact hret H locs _ ls hM (m_nc cd) dX7_checkSign_102
def f_X7_checkSign_62 (self53 : Nat → Int32 → ZS → Option (Int32 × ZS)) : Nat → Nat → Int32 → Int32 → ZS → Option (Int32 × ZS)
  | 0 => fun _ _ _ _ => none
  | n + 1 => f_X7_checkSign_62s self53 (f_X7_checkSign_62 self53 n)
theorem w_X7_checkSign_62 {p : Program} {l : Launch} {e : Env} {s : State} {m : MethodId} {args : Array Value} {below : List Frame} {meth : Method} {c : Code} {Q : State → Prop} {D : va_G} {y : Nat → ClassId} {A0 : Nat → Prop} {o : Int32 × ZS} (X : CallFix p m c cX7_checkSign 5 s args wsX7_checkSign RX7) (hret : zRi p l e ({ frames := 3, cells := 0, slots := 0, locals := 106 } : Room) s m args below meth c Q cX7_checkSign D y A0 .char o) {self53 : Nat → Int32 → ZS → Option (Int32 × ZS)} (hself53 : ∀ (x0 : Nat) (x3 : Int32) (S : ZS) (H : Heap) (locs : List Loc) (ls : Array Slot), self53 x0 x3 S = some o → zH D y A0 s H locs S → lv_has ls 5 [(0, .ref x0), (3, .int x3)] → W p l e ({ frames := 3, cells := 0, slots := 0, locals := 106 } : Room) s m args below meth c H locs 0 0 Q (F0 m 53 ls [])) (n : Nat) : ∀ (x0 : Nat) (x3 : Int32) (x4 : Int32) (S : ZS) (H : Heap) (locs : List Loc) (ls : Array Slot), f_X7_checkSign_62 self53 n x0 x3 x4 S = some o → zH D y A0 s H locs S → lv_has ls 5 [(0, .ref x0), (3, .int x3), (4, .int x4)] → W p l e ({ frames := 3, cells := 0, slots := 0, locals := 106 } : Room) s m args below meth c H locs 0 0 Q (F0 m 62 ls []) := by
  induction n with
  | zero => intro x0 x3 x4 S H locs ls hf; cases hf
  | succ n ih => intro x0 x3 x4 S H locs ls hf hM hl; exact ws_X7_checkSign_62 X hret hself53 (self62 := f_X7_checkSign_62 self53 n) ih hf hM hl
def f_X7_checkSign_53s (self53 : Nat → Int32 → ZS → Option (Int32 × ZS)) (x0 : Nat) (x3 : Int32) (S : ZS) : Option (Int32 × ZS) :=
  m_if ((64 : Int32) ≤ x3) (
  m_chk (vp_nar .char (35 : Int32) = (35 : Int32)) (some ((35 : Int32), S))
  ) (
  f_X7_checkSign_62 self53 mFuel x0 x3 (0 : Int32) S
  )

set_option maxRecDepth 100000 in
set_option maxHeartbeats 4000000 in
theorem ws_X7_checkSign_53 {p : Program} {l : Launch} {e : Env} {s : State} {m : MethodId} {args : Array Value} {below : List Frame} {meth : Method} {c : Code} {Q : State → Prop} {D : va_G} {y : Nat → ClassId} {A0 : Nat → Prop} {o : Int32 × ZS} (X : CallFix p m c cX7_checkSign 5 s args wsX7_checkSign RX7) (hret : zRi p l e ({ frames := 3, cells := 0, slots := 0, locals := 106 } : Room) s m args below meth c Q cX7_checkSign D y A0 .char o) {self53 : Nat → Int32 → ZS → Option (Int32 × ZS)} (hself53 : ∀ (x0 : Nat) (x3 : Int32) (S : ZS) (H : Heap) (locs : List Loc) (ls : Array Slot), self53 x0 x3 S = some o → zH D y A0 s H locs S → lv_has ls 5 [(0, .ref x0), (3, .int x3)] → W p l e ({ frames := 3, cells := 0, slots := 0, locals := 106 } : Room) s m args below meth c H locs 0 0 Q (F0 m 53 ls [])) {x0 : Nat} {x3 : Int32} {S : ZS} {H : Heap} {locs : List Loc} {ls : Array Slot} (hf : f_X7_checkSign_53s self53 x0 x3 S = some o) (hM : zH D y A0 s H locs S) (hl : lv_has ls 5 [(0, .ref x0), (3, .int x3)]) : W p l e ({ frames := 3, cells := 0, slots := 0, locals := 106 } : Room) s m args below meth c H locs 0 0 Q (F0 m 53 ls []) := by
  obtain ⟨hx, hb, hml, hown, hts⟩ := id X
  unfold f_X7_checkSign_53s at hf
  refine lv_iload_n hx hb dX7_checkSign_53 rfl (lv_at hl 1 rfl) ?_
  refine lv_bipush (v := (64 : Int32)) hx hb dX7_checkSign_54 (by decide) ?_
  refine lv_icmp_ge (tgt := 115) hx hb dX7_checkSign_56 (by decide) (fun cc1 => ?_) (fun cc1 => ?_)
  · replace hf := m_ifT hf cc1
    refine lv_bipush (v := (35 : Int32)) hx hb dX7_checkSign_115 (by decide) ?_
    obtain ⟨cd, hf⟩ := m_chkE hf
    cases hf
    exact hret H locs _ ls hM (m_nc cd) dX7_checkSign_117
  · replace hf := m_ifF hf cc1
    refine lv_iconst (v := (0 : Int32)) hx hb dX7_checkSign_59 (by decide) ?_
    refine lv_istore (lv' := [(4, .int (0 : Int32)), (0, .ref x0), (3, .int x3)]) hx hb dX7_checkSign_60 hl (by decide) rfl (fun ls hl => ?_)
    exact w_X7_checkSign_62 X hret hself53 _ x0 x3 (0 : Int32) _ _ _ _ hf hM (lv_sub hl [1, 2, 0] rfl)
def f_X7_checkSign_53 : Nat → Nat → Int32 → ZS → Option (Int32 × ZS)
  | 0 => fun _ _ _ => none
  | n + 1 => f_X7_checkSign_53s (f_X7_checkSign_53 n)
theorem w_X7_checkSign_53 {p : Program} {l : Launch} {e : Env} {s : State} {m : MethodId} {args : Array Value} {below : List Frame} {meth : Method} {c : Code} {Q : State → Prop} {D : va_G} {y : Nat → ClassId} {A0 : Nat → Prop} {o : Int32 × ZS} (X : CallFix p m c cX7_checkSign 5 s args wsX7_checkSign RX7) (hret : zRi p l e ({ frames := 3, cells := 0, slots := 0, locals := 106 } : Room) s m args below meth c Q cX7_checkSign D y A0 .char o) (n : Nat) : ∀ (x0 : Nat) (x3 : Int32) (S : ZS) (H : Heap) (locs : List Loc) (ls : Array Slot), f_X7_checkSign_53 n x0 x3 S = some o → zH D y A0 s H locs S → lv_has ls 5 [(0, .ref x0), (3, .int x3)] → W p l e ({ frames := 3, cells := 0, slots := 0, locals := 106 } : Room) s m args below meth c H locs 0 0 Q (F0 m 53 ls []) := by
  induction n with
  | zero => intro x0 x3 S H locs ls hf; cases hf
  | succ n ih => intro x0 x3 S H locs ls hf hM hl; exact ws_X7_checkSign_53 X hret (self53 := f_X7_checkSign_53 n) ih hf hM hl
def f_X7_checkSign_0 (x0 : Nat) (x1 : Nat) (x2 : Int32) (S : ZS) : Option (Int32 × ZS) :=
  m_chk (x0 ∈ zL S ∧ zK S x0 = 7) (
  m_cal (zP S 1 x0) (fun b1 =>
  m_chk (b1 ∈ zL S ∧ zK S b1 = 0) (
  m_cal (f_X0_copyFrom b1 x1 S) (fun o2 =>
  m_chk (x0 ∈ zL o2.2 ∧ zK o2.2 x0 = 7) (
  m_cal (zP o2.2 1 x0) (fun b3 =>
  m_chk (b3 ∈ zL o2.2 ∧ zK o2.2 b3 = 0) (
  m_cal (f_X0_play b3 x2 o2.2) (fun o4 =>
  m_chk (x0 ∈ zL o4.2 ∧ zK o4.2 x0 = 7) (
  m_cal (zP o4.2 1 x0) (fun b5 =>
  m_chk (x0 ∈ zL o4.2 ∧ zK o4.2 x0 = 7) (
  m_cal (zP o4.2 1 x0) (fun b6 =>
  m_chk (x0 ∈ zL o4.2 ∧ zK o4.2 x0 = 7) (
  m_cal (zP o4.2 1 x0) (fun b7 =>
  m_chk (b7 ∈ zL o4.2 ∧ zK o4.2 b7 = 0) (
  m_chk (b6 ∈ zL o4.2 ∧ zK o4.2 b6 = 0) (
  m_cal (f_X0_kingOf b6 (zI o4.2 3 b7) o4.2) (fun o8 =>
  m_chk (x0 ∈ zL o8.2 ∧ zK o8.2 x0 = 7) (
  m_cal (zP o8.2 1 x0) (fun b9 =>
  m_chk (b9 ∈ zL o8.2 ∧ zK o8.2 b9 = 0) (
  m_bnd ((1 : Int32) - (zI o8.2 3 b9)) (fun v10 =>
  m_chk (b5 ∈ zL o8.2 ∧ zK o8.2 b5 = 0) (
  m_cal (f_X0_attacked b5 o8.1 v10 o8.2) (fun o11 =>
  m_if (o11.1 = 0) (
  m_chk (vp_nar .char (0 : Int32) = (0 : Int32)) (some ((0 : Int32), o11.2))
  ) (
  f_X7_checkSign_53 mFuel x0 (0 : Int32) o11.2
  ))))))))))))))))))))))))

set_option maxRecDepth 100000 in
set_option maxHeartbeats 4000000 in
theorem w_X7_checkSign_0 {p : Program} {l : Launch} {e : Env} {s : State} {m : MethodId} {args : Array Value} {below : List Frame} {meth : Method} {c : Code} {Q : State → Prop} {D : va_G} {y : Nat → ClassId} {A0 : Nat → Prop} {o : Int32 × ZS} (X : CallFix p m c cX7_checkSign 5 s args wsX7_checkSign RX7) (hret : zRi p l e ({ frames := 3, cells := 0, slots := 0, locals := 106 } : Room) s m args below meth c Q cX7_checkSign D y A0 .char o) {x0 : Nat} {x1 : Nat} {x2 : Int32} {S : ZS} {H : Heap} {locs : List Loc} {ls : Array Slot} (hf : f_X7_checkSign_0 x0 x1 x2 S = some o) (hM : zH D y A0 s H locs S) (hl : lv_has ls 5 [(0, .ref x0), (1, .ref x1), (2, .int x2)]) : W p l e ({ frames := 3, cells := 0, slots := 0, locals := 106 } : Room) s m args below meth c H locs 0 0 Q (F0 m 0 ls []) := by
  obtain ⟨hx, hb, hml, hown, hts⟩ := id X
  unfold f_X7_checkSign_0 at hf
  refine lv_aload_n hx hb dX7_checkSign_0 rfl (lv_at hl 0 rfl) ?_
  obtain ⟨ca, hf⟩ := m_chkE hf
  refine z_get (k := 7) (j := 1) (C := RX7) (T := TX7) (N := 2) (fl := zf_7) (v := va_rf (zP S 1 x0)) X hw_X7_checkSign_7 hM rfl zc_7 ca (by decide) fl_X7_checkSign_7_1 rfl dX7_checkSign_1 ?_
  clear ca
  obtain ⟨b1, hb9, hf⟩ := m_calE hf
  refine z_topr hb9 ?_
  clear hb9
  refine lv_aload_n hx hb dX7_checkSign_4 rfl (lv_at hl 1 rfl) ?_
  obtain ⟨ca, hf⟩ := m_chkE hf
  obtain ⟨o2, ho, hf⟩ := m_calE hf
  refine z_callVv (k := 0) (C := RX0) (T := TX0) (N := 7) (fl := zf_0) X hM rfl zc_0 ca (c_X0_copyFrom ho) gX7_checkSign_X0_copyFrom rfl ⟨rfl, rfl⟩ hd_X0_copyFrom ⟨Nat.le_of_ble_eq_true rfl, Nat.le_of_ble_eq_true rfl⟩ rfl hl.1 rfl (Nat.le_of_ble_eq_true rfl) dX7_checkSign_5 (fun H locs hM => ?_)
  clear ho
  refine lv_aload_n hx hb dX7_checkSign_8 rfl (lv_at hl 0 rfl) ?_
  obtain ⟨ca, hf⟩ := m_chkE hf
  refine z_get (k := 7) (j := 1) (C := RX7) (T := TX7) (N := 2) (fl := zf_7) (v := va_rf (zP o2.2 1 x0)) X hw_X7_checkSign_7 hM rfl zc_7 ca (by decide) fl_X7_checkSign_7_1 rfl dX7_checkSign_9 ?_
  clear ca
  obtain ⟨b3, hb9, hf⟩ := m_calE hf
  refine z_topr hb9 ?_
  clear hb9
  refine lv_iload_n hx hb dX7_checkSign_12 rfl (lv_at hl 2 rfl) ?_
  obtain ⟨ca, hf⟩ := m_chkE hf
  obtain ⟨o4, ho, hf⟩ := m_calE hf
  refine z_callVv (k := 0) (C := RX0) (T := TX0) (N := 7) (fl := zf_0) X hM rfl zc_0 ca (c_X0_play ho) gX7_checkSign_X0_play rfl ⟨rfl, rfl⟩ hd_X0_play ⟨Nat.le_of_ble_eq_true rfl, Nat.le_of_ble_eq_true rfl⟩ rfl hl.1 rfl (Nat.le_of_ble_eq_true rfl) dX7_checkSign_13 (fun H locs hM => ?_)
  clear ho
  refine lv_aload_n hx hb dX7_checkSign_16 rfl (lv_at hl 0 rfl) ?_
  obtain ⟨ca, hf⟩ := m_chkE hf
  refine z_get (k := 7) (j := 1) (C := RX7) (T := TX7) (N := 2) (fl := zf_7) (v := va_rf (zP o4.2 1 x0)) X hw_X7_checkSign_7 hM rfl zc_7 ca (by decide) fl_X7_checkSign_7_1 rfl dX7_checkSign_17 ?_
  clear ca
  obtain ⟨b5, hb9, hf⟩ := m_calE hf
  refine z_topr hb9 ?_
  clear hb9
  refine lv_aload_n hx hb dX7_checkSign_20 rfl (lv_at hl 0 rfl) ?_
  obtain ⟨ca, hf⟩ := m_chkE hf
  refine z_get (k := 7) (j := 1) (C := RX7) (T := TX7) (N := 2) (fl := zf_7) (v := va_rf (zP o4.2 1 x0)) X hw_X7_checkSign_7 hM rfl zc_7 ca (by decide) fl_X7_checkSign_7_1 rfl dX7_checkSign_21 ?_
  clear ca
  obtain ⟨b6, hb9, hf⟩ := m_calE hf
  refine z_topr hb9 ?_
  clear hb9
  refine lv_aload_n hx hb dX7_checkSign_24 rfl (lv_at hl 0 rfl) ?_
  obtain ⟨ca, hf⟩ := m_chkE hf
  refine z_get (k := 7) (j := 1) (C := RX7) (T := TX7) (N := 2) (fl := zf_7) (v := va_rf (zP o4.2 1 x0)) X hw_X7_checkSign_7 hM rfl zc_7 ca (by decide) fl_X7_checkSign_7_1 rfl dX7_checkSign_25 ?_
  clear ca
  obtain ⟨b7, hb9, hf⟩ := m_calE hf
  refine z_topr hb9 ?_
  clear hb9
  obtain ⟨ca, hf⟩ := m_chkE hf
  refine z_get (k := 0) (j := 3) (C := RX0) (T := TX0) (N := 7) (fl := zf_0) (v := .int (zI o4.2 3 b7)) X hw_X7_checkSign_0 hM rfl zc_0 ca (by decide) fl_X7_checkSign_0_3 rfl dX7_checkSign_28 ?_
  clear ca
  obtain ⟨ca, hf⟩ := m_chkE hf
  obtain ⟨o8, ho, hf⟩ := m_calE hf
  refine z_callVi (k := 0) (C := RX0) (T := TX0) (N := 7) (fl := zf_0) X hM rfl zc_0 ca (c_X0_kingOf ho) gX7_checkSign_X0_kingOf rfl ⟨rfl, rfl⟩ hd_X0_kingOf ⟨Nat.le_of_ble_eq_true rfl, Nat.le_of_ble_eq_true rfl⟩ rfl hl.1 rfl (Nat.le_of_ble_eq_true rfl) dX7_checkSign_31 (fun H locs hM => ?_)
  clear ho
  refine lv_iconst (v := (1 : Int32)) hx hb dX7_checkSign_34 (by decide) ?_
  refine lv_aload_n hx hb dX7_checkSign_35 rfl (lv_at hl 0 rfl) ?_
  obtain ⟨ca, hf⟩ := m_chkE hf
  refine z_get (k := 7) (j := 1) (C := RX7) (T := TX7) (N := 2) (fl := zf_7) (v := va_rf (zP o8.2 1 x0)) X hw_X7_checkSign_7 hM rfl zc_7 ca (by decide) fl_X7_checkSign_7_1 rfl dX7_checkSign_36 ?_
  clear ca
  obtain ⟨b9, hb9, hf⟩ := m_calE hf
  refine z_topr hb9 ?_
  clear hb9
  obtain ⟨ca, hf⟩ := m_chkE hf
  refine z_get (k := 0) (j := 3) (C := RX0) (T := TX0) (N := 7) (fl := zf_0) (v := .int (zI o8.2 3 b9)) X hw_X7_checkSign_0 hM rfl zc_0 ca (by decide) fl_X7_checkSign_0_3 rfl dX7_checkSign_39 ?_
  clear ca
  refine lv_isub hx hb dX7_checkSign_42 ?_
  obtain ⟨v10, ev, hf⟩ := m_bndE hf
  refine m_top ev ?_
  clear ev
  obtain ⟨ca, hf⟩ := m_chkE hf
  obtain ⟨o11, ho, hf⟩ := m_calE hf
  refine z_callVi (k := 0) (C := RX0) (T := TX0) (N := 7) (fl := zf_0) X hM rfl zc_0 ca (c_X0_attacked ho) gX7_checkSign_X0_attacked rfl ⟨rfl, rfl⟩ hd_X0_attacked ⟨Nat.le_of_ble_eq_true rfl, Nat.le_of_ble_eq_true rfl⟩ rfl hl.1 rfl (Nat.le_of_ble_eq_true rfl) dX7_checkSign_43 (fun H locs hM => ?_)
  clear ho
  refine lv_if_ne (tgt := 51) hx hb dX7_checkSign_46 (by decide) (fun cc1 => ?_) (fun cc1 => ?_)
  · replace hf := m_ifF hf cc1
    refine lv_iconst (v := (0 : Int32)) hx hb dX7_checkSign_51 (by decide) ?_
    refine lv_istore_n (lv' := [(3, .int (0 : Int32)), (0, .ref x0), (1, .ref x1), (2, .int x2)]) hx hb dX7_checkSign_52 rfl hl (by decide) rfl (fun ls hl => ?_)
    exact w_X7_checkSign_53 X hret _ x0 (0 : Int32) _ _ _ _ hf hM (lv_sub hl [1, 0] rfl)
  · replace hf := m_ifT hf cc1
    refine lv_iconst (v := (0 : Int32)) hx hb dX7_checkSign_49 (by decide) ?_
    obtain ⟨cd, hf⟩ := m_chkE hf
    cases hf
    exact hret H locs _ ls hM (m_nc cd) dX7_checkSign_50
def f_X7_checkSign (x0 : Nat) (x1 : Nat) (x2 : Int32) (S : ZS) : Option (Int32 × ZS) := f_X7_checkSign_0 x0 x1 x2 S
theorem c_X7_checkSign {l : Launch} {D : va_G} {y : Nat → ClassId} {x0 : Nat} {x1 : Nat} {x2 : Int32} {S : ZS} {o : Int32 × ZS} (hf : f_X7_checkSign x0 x1 x2 S = some o) : zMi l yX7_checkSign wsX7_checkSign ({ frames := 3, cells := 0, slots := 0, locals := 106 } : Room) [.ref x0, .ref x1, .int x2] D y S o :=
  z_entryI (own := RX7) (cc := cX7_checkSign) (maxL := 5) (by decide) rfl rfl (Nat.le_of_ble_eq_true rfl) (fun p e s m args below meth c A0 Q H locs ls X hret hM hl => w_X7_checkSign_0 X hret hf hM (lv_sub hl [0, 1, 2] rfl))
theorem hd_X7_checkSign : yX7_checkSign.cls = RX7 ∧ yX7_checkSign.cls ≠ "java/lang/invoke/MethodHandle" ∧ yX7_checkSign.cls ≠ "java/lang/invoke/VarHandle" ∧ (parseMethodDescriptor yX7_checkSign.desc).map (fun d => d.parameters.length) = some 2 := by decide +kernel
theorem fl_X8_copyBare_8_1 : Cond.fieldLink RX8 21 "MoveTexts$SignReader" "row" "LMoveTexts$Row;" ∈ wsX8_copyBare := by decide +kernel
theorem hw_X8_copyBare_8 : ∀ w ∈ wsX80, w ∈ wsX8_copyBare := by decide +kernel
def g_X8_copyBare_73 (Pw : Int32 → ZS → Prop) (S : ZS) (C T : Nat) : Prop :=
  Pw 0 S

set_option maxRecDepth 100000 in
set_option maxHeartbeats 4000000 in
theorem w_X8_copyBare_73 {p : Program} {l : Launch} {e : Env} {s : State} {m : MethodId} {args : Array Value} {below : List Frame} {meth : Method} {c : Code} {Q : State → Prop} {D : va_G} {y : Nat → ClassId} {A0 : Nat → Prop} {kc kt : Nat} {Pw : Int32 → ZS → Prop} (X : CallFix p m c cX8_copyBare 6 s args wsX8_copyBare RX8) (hret : zQv p l e ({ frames := 2, cells := kc, slots := kt, locals := 82 } : Room) s m args below meth c Q cX8_copyBare D y A0 Pw) {S : ZS} {C T : Nat} {H : Heap} {locs : List Loc} {ls : Array Slot} (hf : g_X8_copyBare_73 Pw  S C T) (hCT : C ≤ kc ∧ T ≤ kt) (hM : zH D y A0 s H locs S) (hl : lv_has ls 6 []) : W p l e ({ frames := 2, cells := kc, slots := kt, locals := 82 } : Room) s m args below meth c H locs (kc - C) (kt - T) Q (F0 m 73 ls []) := by
  obtain ⟨hx, hb, hml, hown, hts⟩ := id X
  unfold g_X8_copyBare_73 at hf
  exact hret _ _ _ H locs _ ls hf hM dX8_copyBare_73
def g_X8_copyBare_67 (Pw : Int32 → ZS → Prop) (self11 : Nat → Nat → Int32 → Int32 → ZS → Nat → Nat → Prop) (x0 : Nat) (x1 : Nat) (x3 : Int32) (x4 : Int32) (S : ZS) (C T : Nat) : Prop :=
  m_bndP (x4 + (1 : Int32)) (fun v1 =>
  self11 x0 x1 x3 v1 S (C) (T))

set_option maxRecDepth 100000 in
set_option maxHeartbeats 4000000 in
theorem w_X8_copyBare_67 {p : Program} {l : Launch} {e : Env} {s : State} {m : MethodId} {args : Array Value} {below : List Frame} {meth : Method} {c : Code} {Q : State → Prop} {D : va_G} {y : Nat → ClassId} {A0 : Nat → Prop} {kc kt : Nat} {Pw : Int32 → ZS → Prop} (X : CallFix p m c cX8_copyBare 6 s args wsX8_copyBare RX8) (hret : zQv p l e ({ frames := 2, cells := kc, slots := kt, locals := 82 } : Room) s m args below meth c Q cX8_copyBare D y A0 Pw) {self11 : Nat → Nat → Int32 → Int32 → ZS → Nat → Nat → Prop} (hself11 : ∀ (x0 : Nat) (x1 : Nat) (x3 : Int32) (x4 : Int32) (S : ZS) (C T : Nat) (H : Heap) (locs : List Loc) (ls : Array Slot), self11 x0 x1 x3 x4 S C T → C ≤ kc ∧ T ≤ kt → zH D y A0 s H locs S → lv_has ls 6 [(0, .ref x0), (1, .ref x1), (3, .int x3), (4, .int x4)] → W p l e ({ frames := 2, cells := kc, slots := kt, locals := 82 } : Room) s m args below meth c H locs (kc - C) (kt - T) Q (F0 m 11 ls [])) {x0 : Nat} {x1 : Nat} {x3 : Int32} {x4 : Int32} {S : ZS} {C T : Nat} {H : Heap} {locs : List Loc} {ls : Array Slot} (hf : g_X8_copyBare_67 Pw self11 x0 x1 x3 x4 S C T) (hCT : C ≤ kc ∧ T ≤ kt) (hM : zH D y A0 s H locs S) (hl : lv_has ls 6 [(0, .ref x0), (1, .ref x1), (3, .int x3), (4, .int x4)]) : W p l e ({ frames := 2, cells := kc, slots := kt, locals := 82 } : Room) s m args below meth c H locs (kc - C) (kt - T) Q (F0 m 67 ls []) := by
  obtain ⟨hx, hb, hml, hown, hts⟩ := id X
  unfold g_X8_copyBare_67 at hf
  obtain ⟨v1, ev, hf⟩ := m_bndPE hf
  refine lv_iinc (v := v1) (lv' := [(4, .int v1), (0, .ref x0), (1, .ref x1), (3, .int x3)]) hx hb dX8_copyBare_67 hl (k := 3) rfl (by rw [ev]; rfl) (by decide) rfl (fun ls hl => ?_)
  clear ev
  refine lv_goto (tgt := 11) hx hb dX8_copyBare_70 (by decide) ?_
  exact hself11 x0 x1 x3 v1 _ _ _ _ _ _ hf hCT hM (lv_sub hl [1, 2, 3, 0] rfl)
def g_X8_copyBare_11s (Pw : Int32 → ZS → Prop) (self11 : Nat → Nat → Int32 → Int32 → ZS → Nat → Nat → Prop) (x0 : Nat) (x1 : Nat) (x3 : Int32) (x4 : Int32) (S : ZS) (C T : Nat) : Prop :=
  m_ifP (x3 ≤ x4) (
  g_X8_copyBare_73 Pw  S (C) (T)
  ) (
  m_chkP (x0 ∈ zL S ∧ zK S x0 = 8) (
  m_calP (zP S 1 x0) (fun b1 =>
  m_chkP (b1 ∈ zL S ∧ zK S b1 = 6) (
  m_calP (f_X6_size b1 S) (fun o2 =>
  m_ifP ((7 : Int32) < o2.1) (
  g_X8_copyBare_73 Pw  o2.2 (C) (T)
  ) (
  m_chkP (x1 ∈ zL o2.2 ∧ zK o2.2 x1 = 6) (
  m_calP (f_X6_at x1 x4 o2.2) (fun o3 =>
  m_ifP (o3.1 = (120 : Int32)) (
  g_X8_copyBare_67 Pw self11 x0 x1 x3 x4 o3.2 (C) (T)
  ) (
  m_ifP (o3.1 = (43 : Int32)) (
  g_X8_copyBare_67 Pw self11 x0 x1 x3 x4 o3.2 (C) (T)
  ) (
  m_ifP (o3.1 = (35 : Int32)) (
  g_X8_copyBare_67 Pw self11 x0 x1 x3 x4 o3.2 (C) (T)
  ) (
  m_chkP (x0 ∈ zL o3.2 ∧ zK o3.2 x0 = 8) (
  m_calP (zP o3.2 1 x0) (fun b4 =>
  m_chkP (b4 ∈ zL o3.2 ∧ zK o3.2 b4 = 6) (
  m_gal (C) (T) (fun mc ms Pw => g_X6_put b4 o3.1 o3.2 mc ms Pw) (fun r6 S7 C8 T9 =>
  g_X8_copyBare_67 Pw self11 x0 x1 x3 x4 S7 (C8) (T9)))))
  )
  )
  )))
  )))))
  )

set_option maxRecDepth 100000 in
set_option maxHeartbeats 4000000 in
theorem ws_X8_copyBare_11 {p : Program} {l : Launch} {e : Env} {s : State} {m : MethodId} {args : Array Value} {below : List Frame} {meth : Method} {c : Code} {Q : State → Prop} {D : va_G} {y : Nat → ClassId} {A0 : Nat → Prop} {kc kt : Nat} {Pw : Int32 → ZS → Prop} (X : CallFix p m c cX8_copyBare 6 s args wsX8_copyBare RX8) (hret : zQv p l e ({ frames := 2, cells := kc, slots := kt, locals := 82 } : Room) s m args below meth c Q cX8_copyBare D y A0 Pw) {self11 : Nat → Nat → Int32 → Int32 → ZS → Nat → Nat → Prop} (hself11 : ∀ (x0 : Nat) (x1 : Nat) (x3 : Int32) (x4 : Int32) (S : ZS) (C T : Nat) (H : Heap) (locs : List Loc) (ls : Array Slot), self11 x0 x1 x3 x4 S C T → C ≤ kc ∧ T ≤ kt → zH D y A0 s H locs S → lv_has ls 6 [(0, .ref x0), (1, .ref x1), (3, .int x3), (4, .int x4)] → W p l e ({ frames := 2, cells := kc, slots := kt, locals := 82 } : Room) s m args below meth c H locs (kc - C) (kt - T) Q (F0 m 11 ls [])) {x0 : Nat} {x1 : Nat} {x3 : Int32} {x4 : Int32} {S : ZS} {C T : Nat} {H : Heap} {locs : List Loc} {ls : Array Slot} (hf : g_X8_copyBare_11s Pw self11 x0 x1 x3 x4 S C T) (hCT : C ≤ kc ∧ T ≤ kt) (hM : zH D y A0 s H locs S) (hl : lv_has ls 6 [(0, .ref x0), (1, .ref x1), (3, .int x3), (4, .int x4)]) : W p l e ({ frames := 2, cells := kc, slots := kt, locals := 82 } : Room) s m args below meth c H locs (kc - C) (kt - T) Q (F0 m 11 ls []) := by
  obtain ⟨hx, hb, hml, hown, hts⟩ := id X
  unfold g_X8_copyBare_11s at hf
  refine lv_iload hx hb dX8_copyBare_11 (lv_at hl 3 rfl) ?_
  refine lv_iload_n hx hb dX8_copyBare_13 rfl (lv_at hl 2 rfl) ?_
  refine lv_icmp_ge (tgt := 73) hx hb dX8_copyBare_14 (by decide) (fun cc1 => ?_) (fun cc1 => ?_)
  · replace hf := m_ifPT hf cc1
    exact w_X8_copyBare_73 X hret hf hCT hM (lv_sub hl [] rfl)
  · replace hf := m_ifPF hf cc1
    refine lv_aload_n hx hb dX8_copyBare_17 rfl (lv_at hl 0 rfl) ?_
    obtain ⟨ca, hf⟩ := m_chkPE hf
    refine z_get (k := 8) (j := 1) (C := RX8) (T := TX8) (N := 12) (fl := zf_8) (v := va_rf (zP S 1 x0)) X hw_X8_copyBare_8 hM rfl zc_8 ca (by decide) fl_X8_copyBare_8_1 rfl dX8_copyBare_18 ?_
    clear ca
    obtain ⟨b1, hb9, hf⟩ := m_calPE hf
    refine z_topr hb9 ?_
    clear hb9
    obtain ⟨ca, hf⟩ := m_chkPE hf
    obtain ⟨o2, ho, hf⟩ := m_calPE hf
    refine z_gcallVi (k := 6) (C := RX6) (T := TX6) (N := 2) (fl := zf_6) X hM rfl zc_6 ca (c_X6_size ho) gX8_copyBare_X6_size rfl ⟨rfl, rfl⟩ hd_X6_size ⟨Nat.le_of_ble_eq_true rfl, Nat.le_of_ble_eq_true rfl⟩ rfl hl.1 rfl ⟨Nat.sub_le _ _, Nat.sub_le _ _⟩ (Nat.le_of_ble_eq_true rfl) dX8_copyBare_21 (fun H locs hM => ?_)
    clear ho
    refine lv_bipush (v := (7 : Int32)) hx hb dX8_copyBare_24 (by decide) ?_
    refine lv_icmp_gt (tgt := 73) hx hb dX8_copyBare_26 (by decide) (fun cc1 => ?_) (fun cc1 => ?_)
    · replace hf := m_ifPT hf cc1
      exact w_X8_copyBare_73 X hret hf hCT hM (lv_sub hl [] rfl)
    · replace hf := m_ifPF hf cc1
      refine lv_aload_n hx hb dX8_copyBare_29 rfl (lv_at hl 1 rfl) ?_
      refine lv_iload hx hb dX8_copyBare_30 (lv_at hl 3 rfl) ?_
      obtain ⟨ca, hf⟩ := m_chkPE hf
      obtain ⟨o3, ho, hf⟩ := m_calPE hf
      refine z_gcallVi (k := 6) (C := RX6) (T := TX6) (N := 2) (fl := zf_6) X hM rfl zc_6 ca (c_X6_at ho) gX8_copyBare_X6_at rfl ⟨rfl, rfl⟩ hd_X6_at ⟨Nat.le_of_ble_eq_true rfl, Nat.le_of_ble_eq_true rfl⟩ rfl hl.1 rfl ⟨Nat.sub_le _ _, Nat.sub_le _ _⟩ (Nat.le_of_ble_eq_true rfl) dX8_copyBare_32 (fun H locs hM => ?_)
      clear ho
      refine lv_istore (lv' := [(5, .int o3.1), (0, .ref x0), (1, .ref x1), (3, .int x3), (4, .int x4)]) hx hb dX8_copyBare_35 hl (by decide) rfl (fun ls hl => ?_)
      refine lv_iload hx hb dX8_copyBare_37 (lv_at hl 0 rfl) ?_
      refine lv_bipush (v := (120 : Int32)) hx hb dX8_copyBare_39 (by decide) ?_
      refine lv_icmp_eq (tgt := 67) hx hb dX8_copyBare_41 (by decide) (fun cc1 => ?_) (fun cc1 => ?_)
      · replace hf := m_ifPT hf cc1
        exact w_X8_copyBare_67 (x0 := x0) (x1 := x1) (x3 := x3) (x4 := x4) X hret hself11 hf hCT hM (lv_sub hl [1, 2, 3, 4] rfl)
      · replace hf := m_ifPF hf cc1
        refine lv_iload hx hb dX8_copyBare_44 (lv_at hl 0 rfl) ?_
        refine lv_bipush (v := (43 : Int32)) hx hb dX8_copyBare_46 (by decide) ?_
        refine lv_icmp_eq (tgt := 67) hx hb dX8_copyBare_48 (by decide) (fun cc1 => ?_) (fun cc1 => ?_)
        · replace hf := m_ifPT hf cc1
          exact w_X8_copyBare_67 (x0 := x0) (x1 := x1) (x3 := x3) (x4 := x4) X hret hself11 hf hCT hM (lv_sub hl [1, 2, 3, 4] rfl)
        · replace hf := m_ifPF hf cc1
          refine lv_iload hx hb dX8_copyBare_51 (lv_at hl 0 rfl) ?_
          refine lv_bipush (v := (35 : Int32)) hx hb dX8_copyBare_53 (by decide) ?_
          refine lv_icmp_eq (tgt := 67) hx hb dX8_copyBare_55 (by decide) (fun cc1 => ?_) (fun cc1 => ?_)
          · replace hf := m_ifPT hf cc1
            exact w_X8_copyBare_67 (x0 := x0) (x1 := x1) (x3 := x3) (x4 := x4) X hret hself11 hf hCT hM (lv_sub hl [1, 2, 3, 4] rfl)
          · replace hf := m_ifPF hf cc1
            refine lv_aload_n hx hb dX8_copyBare_58 rfl (lv_at hl 1 rfl) ?_
            obtain ⟨ca, hf⟩ := m_chkPE hf
            refine z_get (k := 8) (j := 1) (C := RX8) (T := TX8) (N := 12) (fl := zf_8) (v := va_rf (zP o3.2 1 x0)) X hw_X8_copyBare_8 hM rfl zc_8 ca (by decide) fl_X8_copyBare_8_1 rfl dX8_copyBare_59 ?_
            clear ca
            obtain ⟨b4, hb9, hf⟩ := m_calPE hf
            refine z_topr hb9 ?_
            clear hb9
            refine lv_iload hx hb dX8_copyBare_62 (lv_at hl 0 rfl) ?_
            obtain ⟨ca, hf⟩ := m_chkPE hf
            obtain ⟨mc, ms, hcm, ho⟩ := m_galE hf
            refine z_wcallVv (k := 6) (C := RX6) (T := TX6) (N := 2) (fl := zf_6) X hM rfl zc_6 ca (c_X6_put ho) gX8_copyBare_X6_put rfl ⟨rfl, rfl⟩ ⟨by show kc - (C) + mc ≤ kc; omega, by show kt - (T) + ms ≤ kt; omega⟩ hd_X6_put ⟨Nat.le_of_ble_eq_true rfl, Nat.le_of_ble_eq_true rfl⟩ rfl hl.1 rfl (Nat.le_of_ble_eq_true rfl) dX8_copyBare_64 (fun S7 H locs hf hM => ?_)
            refine z_eqCS (c2 := kc - (C - mc)) (t2 := kt - (T - ms)) (by omega) (by omega) ?_
            replace hCT : C - mc ≤ kc ∧ T - ms ≤ kt := by omega
            generalize C - mc = C8 at hf hCT ⊢
            generalize T - ms = T9 at hf hCT ⊢
            clear ho hcm
            exact w_X8_copyBare_67 (x0 := x0) (x1 := x1) (x3 := x3) (x4 := x4) X hret hself11 hf hCT hM (lv_sub hl [1, 2, 3, 4] rfl)
def g_X8_copyBare_11 (Pw : Int32 → ZS → Prop) : Nat → Nat → Nat → Int32 → Int32 → ZS → Nat → Nat → Prop
  | 0 => fun _ _ _ _ _ _ _ => False
  | n + 1 => g_X8_copyBare_11s Pw (g_X8_copyBare_11 Pw n)
theorem w_X8_copyBare_11 {p : Program} {l : Launch} {e : Env} {s : State} {m : MethodId} {args : Array Value} {below : List Frame} {meth : Method} {c : Code} {Q : State → Prop} {D : va_G} {y : Nat → ClassId} {A0 : Nat → Prop} {kc kt : Nat} {Pw : Int32 → ZS → Prop} (X : CallFix p m c cX8_copyBare 6 s args wsX8_copyBare RX8) (hret : zQv p l e ({ frames := 2, cells := kc, slots := kt, locals := 82 } : Room) s m args below meth c Q cX8_copyBare D y A0 Pw) (n : Nat) : ∀ (x0 : Nat) (x1 : Nat) (x3 : Int32) (x4 : Int32) (S : ZS) (C T : Nat) (H : Heap) (locs : List Loc) (ls : Array Slot), g_X8_copyBare_11 Pw n x0 x1 x3 x4 S C T → C ≤ kc ∧ T ≤ kt → zH D y A0 s H locs S → lv_has ls 6 [(0, .ref x0), (1, .ref x1), (3, .int x3), (4, .int x4)] → W p l e ({ frames := 2, cells := kc, slots := kt, locals := 82 } : Room) s m args below meth c H locs (kc - C) (kt - T) Q (F0 m 11 ls []) := by
  induction n with
  | zero => intro x0 x1 x3 x4 S C T H locs ls hf; exact absurd hf id
  | succ n ih => intro x0 x1 x3 x4 S C T H locs ls hf hCT hM hl; exact ws_X8_copyBare_11 X hret (self11 := g_X8_copyBare_11 Pw n) ih hf hCT hM hl
def g_X8_copyBare_0 (Pw : Int32 → ZS → Prop) (x0 : Nat) (x1 : Nat) (x2 : Int32) (x3 : Int32) (S : ZS) (C T : Nat) : Prop :=
  m_chkP (x0 ∈ zL S ∧ zK S x0 = 8) (
  m_calP (zP S 1 x0) (fun b1 =>
  m_chkP (b1 ∈ zL S ∧ zK S b1 = 6) (
  m_calP (f_X6_keep b1 (0 : Int32) S) (fun o2 =>
  g_X8_copyBare_11 Pw mFuel x0 x1 x3 x2 o2.2 (C) (T)))))

set_option maxRecDepth 100000 in
set_option maxHeartbeats 4000000 in
theorem w_X8_copyBare_0 {p : Program} {l : Launch} {e : Env} {s : State} {m : MethodId} {args : Array Value} {below : List Frame} {meth : Method} {c : Code} {Q : State → Prop} {D : va_G} {y : Nat → ClassId} {A0 : Nat → Prop} {kc kt : Nat} {Pw : Int32 → ZS → Prop} (X : CallFix p m c cX8_copyBare 6 s args wsX8_copyBare RX8) (hret : zQv p l e ({ frames := 2, cells := kc, slots := kt, locals := 82 } : Room) s m args below meth c Q cX8_copyBare D y A0 Pw) {x0 : Nat} {x1 : Nat} {x2 : Int32} {x3 : Int32} {S : ZS} {C T : Nat} {H : Heap} {locs : List Loc} {ls : Array Slot} (hf : g_X8_copyBare_0 Pw x0 x1 x2 x3 S C T) (hCT : C ≤ kc ∧ T ≤ kt) (hM : zH D y A0 s H locs S) (hl : lv_has ls 6 [(0, .ref x0), (1, .ref x1), (2, .int x2), (3, .int x3)]) : W p l e ({ frames := 2, cells := kc, slots := kt, locals := 82 } : Room) s m args below meth c H locs (kc - C) (kt - T) Q (F0 m 0 ls []) := by
  obtain ⟨hx, hb, hml, hown, hts⟩ := id X
  unfold g_X8_copyBare_0 at hf
  refine lv_aload_n hx hb dX8_copyBare_0 rfl (lv_at hl 0 rfl) ?_
  obtain ⟨ca, hf⟩ := m_chkPE hf
  refine z_get (k := 8) (j := 1) (C := RX8) (T := TX8) (N := 12) (fl := zf_8) (v := va_rf (zP S 1 x0)) X hw_X8_copyBare_8 hM rfl zc_8 ca (by decide) fl_X8_copyBare_8_1 rfl dX8_copyBare_1 ?_
  clear ca
  obtain ⟨b1, hb9, hf⟩ := m_calPE hf
  refine z_topr hb9 ?_
  clear hb9
  refine lv_iconst (v := (0 : Int32)) hx hb dX8_copyBare_4 (by decide) ?_
  obtain ⟨ca, hf⟩ := m_chkPE hf
  obtain ⟨o2, ho, hf⟩ := m_calPE hf
  refine z_gcallVv (k := 6) (C := RX6) (T := TX6) (N := 2) (fl := zf_6) X hM rfl zc_6 ca (c_X6_keep ho) gX8_copyBare_X6_keep rfl ⟨rfl, rfl⟩ hd_X6_keep ⟨Nat.le_of_ble_eq_true rfl, Nat.le_of_ble_eq_true rfl⟩ rfl hl.1 rfl ⟨Nat.sub_le _ _, Nat.sub_le _ _⟩ (Nat.le_of_ble_eq_true rfl) dX8_copyBare_5 (fun H locs hM => ?_)
  clear ho
  refine lv_iload_n hx hb dX8_copyBare_8 rfl (lv_at hl 2 rfl) ?_
  refine lv_istore (lv' := [(4, .int x2), (0, .ref x0), (1, .ref x1), (2, .int x2), (3, .int x3)]) hx hb dX8_copyBare_9 hl (by decide) rfl (fun ls hl => ?_)
  exact w_X8_copyBare_11 X hret _ x0 x1 x3 x2 _ _ _ _ _ _ hf hCT hM (lv_sub hl [1, 2, 4, 0] rfl)
def g_X8_copyBare (x0 : Nat) (x1 : Nat) (x2 : Int32) (x3 : Int32) (S : ZS) (mc ms : Nat) (Pw : Int32 → ZS → Prop) : Prop := g_X8_copyBare_0 Pw x0 x1 x2 x3 S mc ms
theorem c_X8_copyBare {l : Launch} {D : va_G} {y : Nat → ClassId} {x0 : Nat} {x1 : Nat} {x2 : Int32} {x3 : Int32} {S : ZS} {kc kt : Nat} {Pw : Int32 → ZS → Prop} (hf : g_X8_copyBare x0 x1 x2 x3 S kc kt Pw) : zWv l yX8_copyBare wsX8_copyBare ({ frames := 2, cells := kc, slots := kt, locals := 82 } : Room) [.ref x0, .ref x1, .int x2, .int x3] D y S kc kt Pw :=
  z_wentV (own := RX8) (cc := cX8_copyBare) (maxL := 6) (by decide) rfl rfl (Nat.le_of_ble_eq_true rfl) ⟨rfl, rfl⟩ (fun p e s m args below meth c A0 Q H locs ls X hret hM hl => w_X8_copyBare_0 X hret hf ⟨Nat.le_refl _, Nat.le_refl _⟩ hM (lv_sub hl [0, 1, 2, 3] rfl))
theorem hd_X8_copyBare : yX8_copyBare.cls = RX8 ∧ yX8_copyBare.cls ≠ "java/lang/invoke/MethodHandle" ∧ yX8_copyBare.cls ≠ "java/lang/invoke/VarHandle" ∧ (parseMethodDescriptor yX8_copyBare.desc).map (fun d => d.parameters.length) = some 3 := by decide +kernel
theorem fl_X8_matched_8_0 : Cond.fieldLink RX8 12 "MoveTexts$SignReader" "rules" "LMoveTexts$Rules;" ∈ wsX8_matched := by decide +kernel
theorem fl_X8_matched_8_10 : Cond.fieldLink RX8 25 "MoveTexts$SignReader" "fitting" "[I" ∈ wsX8_matched := by decide +kernel
theorem fl_X8_matched_8_11 : Cond.fieldLink RX8 41 "MoveTexts$SignReader" "fits" "I" ∈ wsX8_matched := by decide +kernel
theorem fl_X8_matched_8_8 : Cond.fieldLink RX8 56 "MoveTexts$SignReader" "taking" "I" ∈ wsX8_matched := by decide +kernel
theorem fl_X8_matched_8_9 : Cond.fieldLink RX8 45 "MoveTexts$SignReader" "check" "C" ∈ wsX8_matched := by decide +kernel
theorem hw_X8_matched_8 : ∀ w ∈ wsX80, w ∈ wsX8_matched := by decide +kernel
def g_X8_matched_144 (Pw : Int32 → ZS → Prop) (t0 : Int32) (S : ZS) (C T : Nat) : Prop :=
  Pw t0 S

set_option maxRecDepth 100000 in
set_option maxHeartbeats 4000000 in
theorem w_X8_matched_144 {p : Program} {l : Launch} {e : Env} {s : State} {m : MethodId} {args : Array Value} {below : List Frame} {meth : Method} {c : Code} {Q : State → Prop} {D : va_G} {y : Nat → ClassId} {A0 : Nat → Prop} {kc kt : Nat} {Pw : Int32 → ZS → Prop} (X : CallFix p m c cX8_matched 8 s args wsX8_matched RX8) (hret : zQi p l e ({ frames := 7, cells := kc, slots := kt, locals := 151 } : Room) s m args below meth c Q cX8_matched D y A0 .int Pw) {t0 : Int32} {S : ZS} {C T : Nat} {H : Heap} {locs : List Loc} {ls : Array Slot} (hf : g_X8_matched_144 Pw t0 S C T) (hCT : C ≤ kc ∧ T ≤ kt) (hM : zH D y A0 s H locs S) (hl : lv_has ls 8 []) : W p l e ({ frames := 7, cells := kc, slots := kt, locals := 151 } : Room) s m args below meth c H locs (kc - C) (kt - T) Q (F0 m 144 ls [.int t0]) := by
  obtain ⟨hx, hb, hml, hown, hts⟩ := id X
  unfold g_X8_matched_144 at hf
  exact hret _ _ _ _ H locs _ ls hf hM rfl dX8_matched_144
def g_X8_matched_103 (Pw : Int32 → ZS → Prop) (x0 : Nat) (x1 : Nat) (x2 : Nat) (x3 : Int32) (x4 : Int32) (S : ZS) (C T : Nat) : Prop :=
  m_chkP (x0 ∈ zL S ∧ zK S x0 = 8) (
  m_gal (C) (T) (fun mc ms Pw => g_X8_copyBare x0 x2 x3 x4 S mc ms Pw) (fun r2 S3 C4 T5 =>
  m_chkP (x0 ∈ zL S3 ∧ zK S3 x0 = 8) (
  m_calP (f_X8_parse x0 S3) (fun o6 =>
  m_ifP (o6.1 = 0) (
  Pw (-1 : Int32) o6.2
  ) (
  m_chkP (x0 ∈ zL o6.2 ∧ zK o6.2 x0 = 8) (
  m_bndP (zsI o6.2 8 x0 (-1 : Int32)) (fun S7 =>
  m_chkP (x0 ∈ zL S7 ∧ zK S7 x0 = 8) (
  m_calP (f_X8_gather x0 x1 S7) (fun o8 =>
  m_chkP (x0 ∈ zL o8.2 ∧ zK o8.2 x0 = 8) (
  m_ifP ((zI o8.2 11 x0) = (1 : Int32)) (
  g_X8_matched_144 Pw (-2 : Int32) o8.2 (C4) (T5)
  ) (
  g_X8_matched_144 Pw (-1 : Int32) o8.2 (C4) (T5)
  ))))))
  )))))

set_option maxRecDepth 100000 in
set_option maxHeartbeats 4000000 in
theorem w_X8_matched_103 {p : Program} {l : Launch} {e : Env} {s : State} {m : MethodId} {args : Array Value} {below : List Frame} {meth : Method} {c : Code} {Q : State → Prop} {D : va_G} {y : Nat → ClassId} {A0 : Nat → Prop} {kc kt : Nat} {Pw : Int32 → ZS → Prop} (X : CallFix p m c cX8_matched 8 s args wsX8_matched RX8) (hret : zQi p l e ({ frames := 7, cells := kc, slots := kt, locals := 151 } : Room) s m args below meth c Q cX8_matched D y A0 .int Pw) {x0 : Nat} {x1 : Nat} {x2 : Nat} {x3 : Int32} {x4 : Int32} {S : ZS} {C T : Nat} {H : Heap} {locs : List Loc} {ls : Array Slot} (hf : g_X8_matched_103 Pw x0 x1 x2 x3 x4 S C T) (hCT : C ≤ kc ∧ T ≤ kt) (hM : zH D y A0 s H locs S) (hl : lv_has ls 8 [(0, .ref x0), (1, .ref x1), (2, .ref x2), (3, .int x3), (4, .int x4)]) : W p l e ({ frames := 7, cells := kc, slots := kt, locals := 151 } : Room) s m args below meth c H locs (kc - C) (kt - T) Q (F0 m 103 ls []) := by
  obtain ⟨hx, hb, hml, hown, hts⟩ := id X
  unfold g_X8_matched_103 at hf
  refine lv_aload_n hx hb dX8_matched_103 rfl (lv_at hl 0 rfl) ?_
  refine lv_aload_n hx hb dX8_matched_104 rfl (lv_at hl 2 rfl) ?_
  refine lv_iload_n hx hb dX8_matched_105 rfl (lv_at hl 3 rfl) ?_
  refine lv_iload hx hb dX8_matched_106 (lv_at hl 4 rfl) ?_
  obtain ⟨ca, hf⟩ := m_chkPE hf
  obtain ⟨mc, ms, hcm, ho⟩ := m_galE hf
  refine z_wcallVv (k := 8) (C := RX8) (T := TX8) (N := 12) (fl := zf_8) X hM rfl zc_8 ca (c_X8_copyBare ho) gX8_matched_X8_copyBare rfl ⟨rfl, rfl⟩ ⟨by show kc - (C) + mc ≤ kc; omega, by show kt - (T) + ms ≤ kt; omega⟩ hd_X8_copyBare ⟨Nat.le_of_ble_eq_true rfl, Nat.le_of_ble_eq_true rfl⟩ rfl hl.1 rfl (Nat.le_of_ble_eq_true rfl) dX8_matched_108 (fun S3 H locs hf hM => ?_)
  refine z_eqCS (c2 := kc - (C - mc)) (t2 := kt - (T - ms)) (by omega) (by omega) ?_
  replace hCT : C - mc ≤ kc ∧ T - ms ≤ kt := by omega
  generalize C - mc = C4 at hf hCT ⊢
  generalize T - ms = T5 at hf hCT ⊢
  clear ho hcm
  refine lv_aload_n hx hb dX8_matched_111 rfl (lv_at hl 0 rfl) ?_
  obtain ⟨ca, hf⟩ := m_chkPE hf
  obtain ⟨o6, ho, hf⟩ := m_calPE hf
  refine z_gcallVi (k := 8) (C := RX8) (T := TX8) (N := 12) (fl := zf_8) X hM rfl zc_8 ca (c_X8_parse ho) gX8_matched_X8_parse rfl ⟨rfl, rfl⟩ hd_X8_parse ⟨Nat.le_of_ble_eq_true rfl, Nat.le_of_ble_eq_true rfl⟩ rfl hl.1 rfl ⟨Nat.sub_le _ _, Nat.sub_le _ _⟩ (Nat.le_of_ble_eq_true rfl) dX8_matched_112 (fun H locs hM => ?_)
  clear ho
  refine lv_if_ne (tgt := 120) hx hb dX8_matched_115 (by decide) (fun cc1 => ?_) (fun cc1 => ?_)
  · replace hf := m_ifPF hf cc1
    refine lv_aload_n hx hb dX8_matched_120 rfl (lv_at hl 0 rfl) ?_
    refine lv_iconst (v := (-1 : Int32)) hx hb dX8_matched_121 (by decide) ?_
    obtain ⟨ca, hf⟩ := m_chkPE hf
    refine z_putI (k := 8) (j := 8) (C := RX8) (T := TX8) (N := 12) (fl := zf_8) (ty := .int) X hw_X8_matched_8 tyX8_ok nmX8 hM rfl zc_8 ca (by decide) fl_X8_matched_8_8 rfl (tyX8_ok 8 (by decide)) rfl rfl zi_8_8 (Nat.le_of_ble_eq_true rfl) dX8_matched_122 (fun H locs hM => ?_)
    clear ca
    obtain ⟨S7, ev, hf⟩ := m_bndPE hf
    replace hM := z_hS hM ev
    clear ev
    refine lv_aload_n hx hb dX8_matched_125 rfl (lv_at hl 0 rfl) ?_
    refine lv_aload_n hx hb dX8_matched_126 rfl (lv_at hl 1 rfl) ?_
    obtain ⟨ca, hf⟩ := m_chkPE hf
    obtain ⟨o8, ho, hf⟩ := m_calPE hf
    refine z_gcallVv (k := 8) (C := RX8) (T := TX8) (N := 12) (fl := zf_8) X hM rfl zc_8 ca (c_X8_gather ho) gX8_matched_X8_gather rfl ⟨rfl, rfl⟩ hd_X8_gather ⟨Nat.le_of_ble_eq_true rfl, Nat.le_of_ble_eq_true rfl⟩ rfl hl.1 rfl ⟨Nat.sub_le _ _, Nat.sub_le _ _⟩ (Nat.le_of_ble_eq_true rfl) dX8_matched_127 (fun H locs hM => ?_)
    clear ho
    refine lv_aload_n hx hb dX8_matched_130 rfl (lv_at hl 0 rfl) ?_
    obtain ⟨ca, hf⟩ := m_chkPE hf
    refine z_get (k := 8) (j := 11) (C := RX8) (T := TX8) (N := 12) (fl := zf_8) (v := .int (zI o8.2 11 x0)) X hw_X8_matched_8 hM rfl zc_8 ca (by decide) fl_X8_matched_8_11 rfl dX8_matched_131 ?_
    clear ca
    refine lv_iconst (v := (1 : Int32)) hx hb dX8_matched_134 (by decide) ?_
    refine lv_icmp_ne (tgt := 143) hx hb dX8_matched_135 (by decide) (fun cc1 => ?_) (fun cc1 => ?_)
    · replace hf := m_ifPF hf cc1
      refine lv_iconst (v := (-1 : Int32)) hx hb dX8_matched_143 (by decide) ?_
      exact w_X8_matched_144 (t0 := (-1 : Int32)) X hret hf hCT hM (lv_sub hl [] rfl)
    · replace hf := m_ifPT hf cc1
      refine lv_bipush (v := (-2 : Int32)) hx hb dX8_matched_138 (by decide) ?_
      refine lv_goto (tgt := 144) hx hb dX8_matched_140 (by decide) ?_
      exact w_X8_matched_144 (t0 := (-2 : Int32)) X hret hf hCT hM (lv_sub hl [] rfl)
  · replace hf := m_ifPT hf cc1
    refine lv_iconst (v := (-1 : Int32)) hx hb dX8_matched_118 (by decide) ?_
    exact hret _ _ _ _ H locs _ ls hf hM rfl dX8_matched_119
def g_X8_matched_102 (Pw : Int32 → ZS → Prop) (t0 : Int32) (S : ZS) (C T : Nat) : Prop :=
  Pw t0 S

set_option maxRecDepth 100000 in
set_option maxHeartbeats 4000000 in
theorem w_X8_matched_102 {p : Program} {l : Launch} {e : Env} {s : State} {m : MethodId} {args : Array Value} {below : List Frame} {meth : Method} {c : Code} {Q : State → Prop} {D : va_G} {y : Nat → ClassId} {A0 : Nat → Prop} {kc kt : Nat} {Pw : Int32 → ZS → Prop} (X : CallFix p m c cX8_matched 8 s args wsX8_matched RX8) (hret : zQi p l e ({ frames := 7, cells := kc, slots := kt, locals := 151 } : Room) s m args below meth c Q cX8_matched D y A0 .int Pw) {t0 : Int32} {S : ZS} {C T : Nat} {H : Heap} {locs : List Loc} {ls : Array Slot} (hf : g_X8_matched_102 Pw t0 S C T) (hCT : C ≤ kc ∧ T ≤ kt) (hM : zH D y A0 s H locs S) (hl : lv_has ls 8 []) : W p l e ({ frames := 7, cells := kc, slots := kt, locals := 151 } : Room) s m args below meth c H locs (kc - C) (kt - T) Q (F0 m 102 ls [.int t0]) := by
  obtain ⟨hx, hb, hml, hown, hts⟩ := id X
  unfold g_X8_matched_102 at hf
  exact hret _ _ _ _ H locs _ ls hf hM rfl dX8_matched_102
def g_X8_matched_79 (Pw : Int32 → ZS → Prop) (self29 : Nat → Nat → Nat → Int32 → Int32 → Int32 → Int32 → Int32 → ZS → Nat → Nat → Prop) (x0 : Nat) (x1 : Nat) (x2 : Nat) (x3 : Int32) (x4 : Int32) (x5 : Int32) (x6 : Int32) (x7 : Int32) (S : ZS) (C T : Nat) : Prop :=
  m_bndP (x7 + (1 : Int32)) (fun v1 =>
  self29 x0 x1 x2 x3 x4 x5 x6 v1 S (C) (T))

set_option maxRecDepth 100000 in
set_option maxHeartbeats 4000000 in
theorem w_X8_matched_79 {p : Program} {l : Launch} {e : Env} {s : State} {m : MethodId} {args : Array Value} {below : List Frame} {meth : Method} {c : Code} {Q : State → Prop} {D : va_G} {y : Nat → ClassId} {A0 : Nat → Prop} {kc kt : Nat} {Pw : Int32 → ZS → Prop} (X : CallFix p m c cX8_matched 8 s args wsX8_matched RX8) (hret : zQi p l e ({ frames := 7, cells := kc, slots := kt, locals := 151 } : Room) s m args below meth c Q cX8_matched D y A0 .int Pw) {self29 : Nat → Nat → Nat → Int32 → Int32 → Int32 → Int32 → Int32 → ZS → Nat → Nat → Prop} (hself29 : ∀ (x0 : Nat) (x1 : Nat) (x2 : Nat) (x3 : Int32) (x4 : Int32) (x5 : Int32) (x6 : Int32) (x7 : Int32) (S : ZS) (C T : Nat) (H : Heap) (locs : List Loc) (ls : Array Slot), self29 x0 x1 x2 x3 x4 x5 x6 x7 S C T → C ≤ kc ∧ T ≤ kt → zH D y A0 s H locs S → lv_has ls 8 [(0, .ref x0), (1, .ref x1), (2, .ref x2), (3, .int x3), (4, .int x4), (5, .int x5), (6, .int x6), (7, .int x7)] → W p l e ({ frames := 7, cells := kc, slots := kt, locals := 151 } : Room) s m args below meth c H locs (kc - C) (kt - T) Q (F0 m 29 ls [])) {x0 : Nat} {x1 : Nat} {x2 : Nat} {x3 : Int32} {x4 : Int32} {x5 : Int32} {x6 : Int32} {x7 : Int32} {S : ZS} {C T : Nat} {H : Heap} {locs : List Loc} {ls : Array Slot} (hf : g_X8_matched_79 Pw self29 x0 x1 x2 x3 x4 x5 x6 x7 S C T) (hCT : C ≤ kc ∧ T ≤ kt) (hM : zH D y A0 s H locs S) (hl : lv_has ls 8 [(0, .ref x0), (1, .ref x1), (2, .ref x2), (3, .int x3), (4, .int x4), (5, .int x5), (6, .int x6), (7, .int x7)]) : W p l e ({ frames := 7, cells := kc, slots := kt, locals := 151 } : Room) s m args below meth c H locs (kc - C) (kt - T) Q (F0 m 79 ls []) := by
  obtain ⟨hx, hb, hml, hown, hts⟩ := id X
  unfold g_X8_matched_79 at hf
  obtain ⟨v1, ev, hf⟩ := m_bndPE hf
  refine lv_iinc (v := v1) (lv' := [(7, .int v1), (0, .ref x0), (1, .ref x1), (2, .ref x2), (3, .int x3), (4, .int x4), (5, .int x5), (6, .int x6)]) hx hb dX8_matched_79 hl (k := 7) rfl (by rw [ev]; rfl) (by decide) rfl (fun ls hl => ?_)
  clear ev
  refine lv_goto (tgt := 29) hx hb dX8_matched_82 (by decide) ?_
  exact hself29 x0 x1 x2 x3 x4 x5 x6 v1 _ _ _ _ _ _ hf hCT hM (lv_sub hl [1, 2, 3, 4, 5, 6, 7, 0] rfl)
def g_X8_matched_67 (Pw : Int32 → ZS → Prop) (self29 : Nat → Nat → Nat → Int32 → Int32 → Int32 → Int32 → Int32 → ZS → Nat → Nat → Prop) (x0 : Nat) (x1 : Nat) (x2 : Nat) (x3 : Int32) (x4 : Int32) (x6 : Int32) (x7 : Int32) (S : ZS) (C T : Nat) : Prop :=
  m_chkP (x0 ∈ zL S ∧ zK S x0 = 8) (
  m_calP (zP S 10 x0) (fun b1 =>
  m_chkP (b1 ∈ zL S ∧ zK S b1 = 14) (
  m_chkP (¬ (x7 < 0 ∨ zN S b1 ≤ (x7).toNatClampNeg)) (
  m_bndP (zA S b1 (x7).toNatClampNeg) (fun v2 =>
  m_bndP (x6 + (1 : Int32)) (fun v3 =>
  g_X8_matched_79 Pw self29 x0 x1 x2 x3 x4 v2 v3 x7 S (C) (T)))))))

set_option maxRecDepth 100000 in
set_option maxHeartbeats 4000000 in
theorem w_X8_matched_67 {p : Program} {l : Launch} {e : Env} {s : State} {m : MethodId} {args : Array Value} {below : List Frame} {meth : Method} {c : Code} {Q : State → Prop} {D : va_G} {y : Nat → ClassId} {A0 : Nat → Prop} {kc kt : Nat} {Pw : Int32 → ZS → Prop} (X : CallFix p m c cX8_matched 8 s args wsX8_matched RX8) (hret : zQi p l e ({ frames := 7, cells := kc, slots := kt, locals := 151 } : Room) s m args below meth c Q cX8_matched D y A0 .int Pw) {self29 : Nat → Nat → Nat → Int32 → Int32 → Int32 → Int32 → Int32 → ZS → Nat → Nat → Prop} (hself29 : ∀ (x0 : Nat) (x1 : Nat) (x2 : Nat) (x3 : Int32) (x4 : Int32) (x5 : Int32) (x6 : Int32) (x7 : Int32) (S : ZS) (C T : Nat) (H : Heap) (locs : List Loc) (ls : Array Slot), self29 x0 x1 x2 x3 x4 x5 x6 x7 S C T → C ≤ kc ∧ T ≤ kt → zH D y A0 s H locs S → lv_has ls 8 [(0, .ref x0), (1, .ref x1), (2, .ref x2), (3, .int x3), (4, .int x4), (5, .int x5), (6, .int x6), (7, .int x7)] → W p l e ({ frames := 7, cells := kc, slots := kt, locals := 151 } : Room) s m args below meth c H locs (kc - C) (kt - T) Q (F0 m 29 ls [])) {x0 : Nat} {x1 : Nat} {x2 : Nat} {x3 : Int32} {x4 : Int32} {x6 : Int32} {x7 : Int32} {S : ZS} {C T : Nat} {H : Heap} {locs : List Loc} {ls : Array Slot} (hf : g_X8_matched_67 Pw self29 x0 x1 x2 x3 x4 x6 x7 S C T) (hCT : C ≤ kc ∧ T ≤ kt) (hM : zH D y A0 s H locs S) (hl : lv_has ls 8 [(0, .ref x0), (1, .ref x1), (2, .ref x2), (3, .int x3), (4, .int x4), (6, .int x6), (7, .int x7)]) : W p l e ({ frames := 7, cells := kc, slots := kt, locals := 151 } : Room) s m args below meth c H locs (kc - C) (kt - T) Q (F0 m 67 ls []) := by
  obtain ⟨hx, hb, hml, hown, hts⟩ := id X
  unfold g_X8_matched_67 at hf
  refine lv_aload_n hx hb dX8_matched_67 rfl (lv_at hl 0 rfl) ?_
  obtain ⟨ca, hf⟩ := m_chkPE hf
  refine z_get (k := 8) (j := 10) (C := RX8) (T := TX8) (N := 12) (fl := zf_8) (v := va_rf (zP S 10 x0)) X hw_X8_matched_8 hM rfl zc_8 ca (by decide) fl_X8_matched_8_10 rfl dX8_matched_68 ?_
  clear ca
  obtain ⟨b1, hb9, hf⟩ := m_calPE hf
  refine z_topr hb9 ?_
  clear hb9
  refine lv_iload hx hb dX8_matched_71 (lv_at hl 6 rfl) ?_
  obtain ⟨ca, hf⟩ := m_chkPE hf
  obtain ⟨cd, hf⟩ := m_chkPE hf
  refine z_iald X hM ca cd dX8_matched_73 ?_
  clear ca cd
  obtain ⟨v2, ev, hf⟩ := m_bndPE hf
  refine m_top ev ?_
  clear ev
  refine lv_istore (lv' := [(5, .int v2), (0, .ref x0), (1, .ref x1), (2, .ref x2), (3, .int x3), (4, .int x4), (6, .int x6), (7, .int x7)]) hx hb dX8_matched_74 hl (by decide) rfl (fun ls hl => ?_)
  obtain ⟨v3, ev, hf⟩ := m_bndPE hf
  refine lv_iinc (v := v3) (lv' := [(6, .int v3), (5, .int v2), (0, .ref x0), (1, .ref x1), (2, .ref x2), (3, .int x3), (4, .int x4), (7, .int x7)]) hx hb dX8_matched_76 hl (k := 6) rfl (by rw [ev]; rfl) (by decide) rfl (fun ls hl => ?_)
  clear ev
  exact w_X8_matched_79 (x0 := x0) (x1 := x1) (x2 := x2) (x3 := x3) (x4 := x4) (x5 := v2) (x6 := v3) (x7 := x7) X hret hself29 hf hCT hM (lv_sub hl [2, 3, 4, 5, 6, 1, 0, 7] rfl)
def g_X8_matched_29s (Pw : Int32 → ZS → Prop) (self29 : Nat → Nat → Nat → Int32 → Int32 → Int32 → Int32 → Int32 → ZS → Nat → Nat → Prop) (x0 : Nat) (x1 : Nat) (x2 : Nat) (x3 : Int32) (x4 : Int32) (x5 : Int32) (x6 : Int32) (x7 : Int32) (S : ZS) (C T : Nat) : Prop :=
  m_chkP (x0 ∈ zL S ∧ zK S x0 = 8) (
  m_ifP ((zI S 11 x0) ≤ x7) (
  m_ifP (x6 ≤ 0) (
  g_X8_matched_103 Pw x0 x1 x2 x3 x4 S (C) (T)
  ) (
  m_ifP (x6 = (1 : Int32)) (
  g_X8_matched_102 Pw x5 S (C) (T)
  ) (
  g_X8_matched_102 Pw (-1 : Int32) S (C) (T)
  )
  )
  ) (
  m_chkP (x0 ∈ zL S ∧ zK S x0 = 8) (
  m_ifP ((zI S 9 x0) = 0) (
  g_X8_matched_67 Pw self29 x0 x1 x2 x3 x4 x6 x7 S (C) (T)
  ) (
  m_chkP (x0 ∈ zL S ∧ zK S x0 = 8) (
  m_chkP (x0 ∈ zL S ∧ zK S x0 = 8) (
  m_calP (zP S 0 x0) (fun b1 =>
  m_chkP (x0 ∈ zL S ∧ zK S x0 = 8) (
  m_calP (zP S 10 x0) (fun b2 =>
  m_chkP (b2 ∈ zL S ∧ zK S b2 = 14) (
  m_chkP (¬ (x7 < 0 ∨ zN S b2 ≤ (x7).toNatClampNeg)) (
  m_bndP (zA S b2 (x7).toNatClampNeg) (fun v3 =>
  m_chkP (b1 ∈ zL S ∧ zK S b1 = 7) (
  m_calP (f_X7_checkSign b1 x1 v3 S) (fun o4 =>
  m_ifP ((zI S 9 x0) = o4.1) (
  g_X8_matched_67 Pw self29 x0 x1 x2 x3 x4 x6 x7 o4.2 (C) (T)
  ) (
  g_X8_matched_79 Pw self29 x0 x1 x2 x3 x4 x5 x6 x7 o4.2 (C) (T)
  )))))))))))
  ))
  ))

set_option maxRecDepth 100000 in
set_option maxHeartbeats 4000000 in
theorem ws_X8_matched_29 {p : Program} {l : Launch} {e : Env} {s : State} {m : MethodId} {args : Array Value} {below : List Frame} {meth : Method} {c : Code} {Q : State → Prop} {D : va_G} {y : Nat → ClassId} {A0 : Nat → Prop} {kc kt : Nat} {Pw : Int32 → ZS → Prop} (X : CallFix p m c cX8_matched 8 s args wsX8_matched RX8) (hret : zQi p l e ({ frames := 7, cells := kc, slots := kt, locals := 151 } : Room) s m args below meth c Q cX8_matched D y A0 .int Pw) {self29 : Nat → Nat → Nat → Int32 → Int32 → Int32 → Int32 → Int32 → ZS → Nat → Nat → Prop} (hself29 : ∀ (x0 : Nat) (x1 : Nat) (x2 : Nat) (x3 : Int32) (x4 : Int32) (x5 : Int32) (x6 : Int32) (x7 : Int32) (S : ZS) (C T : Nat) (H : Heap) (locs : List Loc) (ls : Array Slot), self29 x0 x1 x2 x3 x4 x5 x6 x7 S C T → C ≤ kc ∧ T ≤ kt → zH D y A0 s H locs S → lv_has ls 8 [(0, .ref x0), (1, .ref x1), (2, .ref x2), (3, .int x3), (4, .int x4), (5, .int x5), (6, .int x6), (7, .int x7)] → W p l e ({ frames := 7, cells := kc, slots := kt, locals := 151 } : Room) s m args below meth c H locs (kc - C) (kt - T) Q (F0 m 29 ls [])) {x0 : Nat} {x1 : Nat} {x2 : Nat} {x3 : Int32} {x4 : Int32} {x5 : Int32} {x6 : Int32} {x7 : Int32} {S : ZS} {C T : Nat} {H : Heap} {locs : List Loc} {ls : Array Slot} (hf : g_X8_matched_29s Pw self29 x0 x1 x2 x3 x4 x5 x6 x7 S C T) (hCT : C ≤ kc ∧ T ≤ kt) (hM : zH D y A0 s H locs S) (hl : lv_has ls 8 [(0, .ref x0), (1, .ref x1), (2, .ref x2), (3, .int x3), (4, .int x4), (5, .int x5), (6, .int x6), (7, .int x7)]) : W p l e ({ frames := 7, cells := kc, slots := kt, locals := 151 } : Room) s m args below meth c H locs (kc - C) (kt - T) Q (F0 m 29 ls []) := by
  obtain ⟨hx, hb, hml, hown, hts⟩ := id X
  unfold g_X8_matched_29s at hf
  refine lv_iload hx hb dX8_matched_29 (lv_at hl 7 rfl) ?_
  refine lv_aload_n hx hb dX8_matched_31 rfl (lv_at hl 0 rfl) ?_
  obtain ⟨ca, hf⟩ := m_chkPE hf
  refine z_get (k := 8) (j := 11) (C := RX8) (T := TX8) (N := 12) (fl := zf_8) (v := .int (zI S 11 x0)) X hw_X8_matched_8 hM rfl zc_8 ca (by decide) fl_X8_matched_8_11 rfl dX8_matched_32 ?_
  clear ca
  refine lv_icmp_ge (tgt := 85) hx hb dX8_matched_35 (by decide) (fun cc1 => ?_) (fun cc1 => ?_)
  · replace hf := m_ifPT hf cc1
    refine lv_iload hx hb dX8_matched_85 (lv_at hl 6 rfl) ?_
    refine lv_if_le (tgt := 103) hx hb dX8_matched_87 (by decide) (fun cc1 => ?_) (fun cc1 => ?_)
    · replace hf := m_ifPT hf cc1
      exact w_X8_matched_103 (x0 := x0) (x1 := x1) (x2 := x2) (x3 := x3) (x4 := x4) X hret hf hCT hM (lv_sub hl [0, 1, 2, 3, 4] rfl)
    · replace hf := m_ifPF hf cc1
      refine lv_iload hx hb dX8_matched_90 (lv_at hl 6 rfl) ?_
      refine lv_iconst (v := (1 : Int32)) hx hb dX8_matched_92 (by decide) ?_
      refine lv_icmp_ne (tgt := 101) hx hb dX8_matched_93 (by decide) (fun cc1 => ?_) (fun cc1 => ?_)
      · replace hf := m_ifPF hf cc1
        refine lv_iconst (v := (-1 : Int32)) hx hb dX8_matched_101 (by decide) ?_
        exact w_X8_matched_102 (t0 := (-1 : Int32)) X hret hf hCT hM (lv_sub hl [] rfl)
      · replace hf := m_ifPT hf cc1
        refine lv_iload hx hb dX8_matched_96 (lv_at hl 5 rfl) ?_
        refine lv_goto (tgt := 102) hx hb dX8_matched_98 (by decide) ?_
        exact w_X8_matched_102 (t0 := x5) X hret hf hCT hM (lv_sub hl [] rfl)
  · replace hf := m_ifPF hf cc1
    refine lv_aload_n hx hb dX8_matched_38 rfl (lv_at hl 0 rfl) ?_
    obtain ⟨ca, hf⟩ := m_chkPE hf
    refine z_get (k := 8) (j := 9) (C := RX8) (T := TX8) (N := 12) (fl := zf_8) (v := .int (zI S 9 x0)) X hw_X8_matched_8 hM rfl zc_8 ca (by decide) fl_X8_matched_8_9 rfl dX8_matched_39 ?_
    clear ca
    refine lv_if_eq (tgt := 67) hx hb dX8_matched_42 (by decide) (fun cc1 => ?_) (fun cc1 => ?_)
    · replace hf := m_ifPT hf cc1
      exact w_X8_matched_67 (x0 := x0) (x1 := x1) (x2 := x2) (x3 := x3) (x4 := x4) (x6 := x6) (x7 := x7) X hret hself29 hf hCT hM (lv_sub hl [0, 1, 2, 3, 4, 6, 7] rfl)
    · replace hf := m_ifPF hf cc1
      refine lv_aload_n hx hb dX8_matched_45 rfl (lv_at hl 0 rfl) ?_
      obtain ⟨ca, hf⟩ := m_chkPE hf
      refine z_get (k := 8) (j := 9) (C := RX8) (T := TX8) (N := 12) (fl := zf_8) (v := .int (zI S 9 x0)) X hw_X8_matched_8 hM rfl zc_8 ca (by decide) fl_X8_matched_8_9 rfl dX8_matched_46 ?_
      clear ca
      refine lv_aload_n hx hb dX8_matched_49 rfl (lv_at hl 0 rfl) ?_
      obtain ⟨ca, hf⟩ := m_chkPE hf
      refine z_get (k := 8) (j := 0) (C := RX8) (T := TX8) (N := 12) (fl := zf_8) (v := va_rf (zP S 0 x0)) X hw_X8_matched_8 hM rfl zc_8 ca (by decide) fl_X8_matched_8_0 rfl dX8_matched_50 ?_
      clear ca
      obtain ⟨b1, hb9, hf⟩ := m_calPE hf
      refine z_topr hb9 ?_
      clear hb9
      refine lv_aload_n hx hb dX8_matched_53 rfl (lv_at hl 1 rfl) ?_
      refine lv_aload_n hx hb dX8_matched_54 rfl (lv_at hl 0 rfl) ?_
      obtain ⟨ca, hf⟩ := m_chkPE hf
      refine z_get (k := 8) (j := 10) (C := RX8) (T := TX8) (N := 12) (fl := zf_8) (v := va_rf (zP S 10 x0)) X hw_X8_matched_8 hM rfl zc_8 ca (by decide) fl_X8_matched_8_10 rfl dX8_matched_55 ?_
      clear ca
      obtain ⟨b2, hb9, hf⟩ := m_calPE hf
      refine z_topr hb9 ?_
      clear hb9
      refine lv_iload hx hb dX8_matched_58 (lv_at hl 7 rfl) ?_
      obtain ⟨ca, hf⟩ := m_chkPE hf
      obtain ⟨cd, hf⟩ := m_chkPE hf
      refine z_iald X hM ca cd dX8_matched_60 ?_
      clear ca cd
      obtain ⟨v3, ev, hf⟩ := m_bndPE hf
      refine m_top ev ?_
      clear ev
      obtain ⟨ca, hf⟩ := m_chkPE hf
      obtain ⟨o4, ho, hf⟩ := m_calPE hf
      refine z_gcallVi (k := 7) (C := RX7) (T := TX7) (N := 2) (fl := zf_7) X hM rfl zc_7 ca (c_X7_checkSign ho) gX8_matched_X7_checkSign rfl ⟨rfl, rfl⟩ hd_X7_checkSign ⟨Nat.le_of_ble_eq_true rfl, Nat.le_of_ble_eq_true rfl⟩ rfl hl.1 rfl ⟨Nat.sub_le _ _, Nat.sub_le _ _⟩ (Nat.le_of_ble_eq_true rfl) dX8_matched_61 (fun H locs hM => ?_)
      clear ho
      refine lv_icmp_ne (tgt := 79) hx hb dX8_matched_64 (by decide) (fun cc1 => ?_) (fun cc1 => ?_)
      · replace hf := m_ifPF hf cc1
        exact w_X8_matched_79 (x0 := x0) (x1 := x1) (x2 := x2) (x3 := x3) (x4 := x4) (x5 := x5) (x6 := x6) (x7 := x7) X hret hself29 hf hCT hM (lv_sub hl [0, 1, 2, 3, 4, 5, 6, 7] rfl)
      · replace hf := m_ifPT hf cc1
        exact w_X8_matched_67 (x0 := x0) (x1 := x1) (x2 := x2) (x3 := x3) (x4 := x4) (x6 := x6) (x7 := x7) X hret hself29 hf hCT hM (lv_sub hl [0, 1, 2, 3, 4, 6, 7] rfl)
def g_X8_matched_29 (Pw : Int32 → ZS → Prop) : Nat → Nat → Nat → Nat → Int32 → Int32 → Int32 → Int32 → Int32 → ZS → Nat → Nat → Prop
  | 0 => fun _ _ _ _ _ _ _ _ _ _ _ => False
  | n + 1 => g_X8_matched_29s Pw (g_X8_matched_29 Pw n)
theorem w_X8_matched_29 {p : Program} {l : Launch} {e : Env} {s : State} {m : MethodId} {args : Array Value} {below : List Frame} {meth : Method} {c : Code} {Q : State → Prop} {D : va_G} {y : Nat → ClassId} {A0 : Nat → Prop} {kc kt : Nat} {Pw : Int32 → ZS → Prop} (X : CallFix p m c cX8_matched 8 s args wsX8_matched RX8) (hret : zQi p l e ({ frames := 7, cells := kc, slots := kt, locals := 151 } : Room) s m args below meth c Q cX8_matched D y A0 .int Pw) (n : Nat) : ∀ (x0 : Nat) (x1 : Nat) (x2 : Nat) (x3 : Int32) (x4 : Int32) (x5 : Int32) (x6 : Int32) (x7 : Int32) (S : ZS) (C T : Nat) (H : Heap) (locs : List Loc) (ls : Array Slot), g_X8_matched_29 Pw n x0 x1 x2 x3 x4 x5 x6 x7 S C T → C ≤ kc ∧ T ≤ kt → zH D y A0 s H locs S → lv_has ls 8 [(0, .ref x0), (1, .ref x1), (2, .ref x2), (3, .int x3), (4, .int x4), (5, .int x5), (6, .int x6), (7, .int x7)] → W p l e ({ frames := 7, cells := kc, slots := kt, locals := 151 } : Room) s m args below meth c H locs (kc - C) (kt - T) Q (F0 m 29 ls []) := by
  induction n with
  | zero => intro x0 x1 x2 x3 x4 x5 x6 x7 S C T H locs ls hf; exact absurd hf id
  | succ n ih => intro x0 x1 x2 x3 x4 x5 x6 x7 S C T H locs ls hf hCT hM hl; exact ws_X8_matched_29 X hret (self29 := g_X8_matched_29 Pw n) ih hf hCT hM hl
def g_X8_matched_0 (Pw : Int32 → ZS → Prop) (x0 : Nat) (x1 : Nat) (x2 : Nat) (x3 : Int32) (x4 : Int32) (S : ZS) (C T : Nat) : Prop :=
  m_chkP (x0 ∈ zL S ∧ zK S x0 = 8) (
  m_gal (C) (T) (fun mc ms Pw => g_X8_copyWhole x0 x2 x3 x4 S mc ms Pw) (fun r2 S3 C4 T5 =>
  m_chkP (x0 ∈ zL S3 ∧ zK S3 x0 = 8) (
  m_calP (f_X8_parse x0 S3) (fun o6 =>
  m_ifP (o6.1 = 0) (
  g_X8_matched_103 Pw x0 x1 x2 x3 x4 o6.2 (C4) (T5)
  ) (
  m_chkP (x0 ∈ zL o6.2 ∧ zK o6.2 x0 = 8) (
  m_calP (f_X8_gather x0 x1 o6.2) (fun o7 =>
  g_X8_matched_29 Pw mFuel x0 x1 x2 x3 x4 (-1 : Int32) (0 : Int32) (0 : Int32) o7.2 (C4) (T5)))
  )))))

set_option maxRecDepth 100000 in
set_option maxHeartbeats 4000000 in
theorem w_X8_matched_0 {p : Program} {l : Launch} {e : Env} {s : State} {m : MethodId} {args : Array Value} {below : List Frame} {meth : Method} {c : Code} {Q : State → Prop} {D : va_G} {y : Nat → ClassId} {A0 : Nat → Prop} {kc kt : Nat} {Pw : Int32 → ZS → Prop} (X : CallFix p m c cX8_matched 8 s args wsX8_matched RX8) (hret : zQi p l e ({ frames := 7, cells := kc, slots := kt, locals := 151 } : Room) s m args below meth c Q cX8_matched D y A0 .int Pw) {x0 : Nat} {x1 : Nat} {x2 : Nat} {x3 : Int32} {x4 : Int32} {S : ZS} {C T : Nat} {H : Heap} {locs : List Loc} {ls : Array Slot} (hf : g_X8_matched_0 Pw x0 x1 x2 x3 x4 S C T) (hCT : C ≤ kc ∧ T ≤ kt) (hM : zH D y A0 s H locs S) (hl : lv_has ls 8 [(0, .ref x0), (1, .ref x1), (2, .ref x2), (3, .int x3), (4, .int x4)]) : W p l e ({ frames := 7, cells := kc, slots := kt, locals := 151 } : Room) s m args below meth c H locs (kc - C) (kt - T) Q (F0 m 0 ls []) := by
  obtain ⟨hx, hb, hml, hown, hts⟩ := id X
  unfold g_X8_matched_0 at hf
  refine lv_aload_n hx hb dX8_matched_0 rfl (lv_at hl 0 rfl) ?_
  refine lv_aload_n hx hb dX8_matched_1 rfl (lv_at hl 2 rfl) ?_
  refine lv_iload_n hx hb dX8_matched_2 rfl (lv_at hl 3 rfl) ?_
  refine lv_iload hx hb dX8_matched_3 (lv_at hl 4 rfl) ?_
  obtain ⟨ca, hf⟩ := m_chkPE hf
  obtain ⟨mc, ms, hcm, ho⟩ := m_galE hf
  refine z_wcallVv (k := 8) (C := RX8) (T := TX8) (N := 12) (fl := zf_8) X hM rfl zc_8 ca (c_X8_copyWhole ho) gX8_matched_X8_copyWhole rfl ⟨rfl, rfl⟩ ⟨by show kc - (C) + mc ≤ kc; omega, by show kt - (T) + ms ≤ kt; omega⟩ hd_X8_copyWhole ⟨Nat.le_of_ble_eq_true rfl, Nat.le_of_ble_eq_true rfl⟩ rfl hl.1 rfl (Nat.le_of_ble_eq_true rfl) dX8_matched_5 (fun S3 H locs hf hM => ?_)
  refine z_eqCS (c2 := kc - (C - mc)) (t2 := kt - (T - ms)) (by omega) (by omega) ?_
  replace hCT : C - mc ≤ kc ∧ T - ms ≤ kt := by omega
  generalize C - mc = C4 at hf hCT ⊢
  generalize T - ms = T5 at hf hCT ⊢
  clear ho hcm
  refine lv_aload_n hx hb dX8_matched_8 rfl (lv_at hl 0 rfl) ?_
  obtain ⟨ca, hf⟩ := m_chkPE hf
  obtain ⟨o6, ho, hf⟩ := m_calPE hf
  refine z_gcallVi (k := 8) (C := RX8) (T := TX8) (N := 12) (fl := zf_8) X hM rfl zc_8 ca (c_X8_parse ho) gX8_matched_X8_parse rfl ⟨rfl, rfl⟩ hd_X8_parse ⟨Nat.le_of_ble_eq_true rfl, Nat.le_of_ble_eq_true rfl⟩ rfl hl.1 rfl ⟨Nat.sub_le _ _, Nat.sub_le _ _⟩ (Nat.le_of_ble_eq_true rfl) dX8_matched_9 (fun H locs hM => ?_)
  clear ho
  refine lv_if_eq (tgt := 103) hx hb dX8_matched_12 (by decide) (fun cc1 => ?_) (fun cc1 => ?_)
  · replace hf := m_ifPT hf cc1
    exact w_X8_matched_103 (x0 := x0) (x1 := x1) (x2 := x2) (x3 := x3) (x4 := x4) X hret hf hCT hM (lv_sub hl [0, 1, 2, 3, 4] rfl)
  · replace hf := m_ifPF hf cc1
    refine lv_aload_n hx hb dX8_matched_15 rfl (lv_at hl 0 rfl) ?_
    refine lv_aload_n hx hb dX8_matched_16 rfl (lv_at hl 1 rfl) ?_
    obtain ⟨ca, hf⟩ := m_chkPE hf
    obtain ⟨o7, ho, hf⟩ := m_calPE hf
    refine z_gcallVv (k := 8) (C := RX8) (T := TX8) (N := 12) (fl := zf_8) X hM rfl zc_8 ca (c_X8_gather ho) gX8_matched_X8_gather rfl ⟨rfl, rfl⟩ hd_X8_gather ⟨Nat.le_of_ble_eq_true rfl, Nat.le_of_ble_eq_true rfl⟩ rfl hl.1 rfl ⟨Nat.sub_le _ _, Nat.sub_le _ _⟩ (Nat.le_of_ble_eq_true rfl) dX8_matched_17 (fun H locs hM => ?_)
    clear ho
    refine lv_iconst (v := (-1 : Int32)) hx hb dX8_matched_20 (by decide) ?_
    refine lv_istore (lv' := [(5, .int (-1 : Int32)), (0, .ref x0), (1, .ref x1), (2, .ref x2), (3, .int x3), (4, .int x4)]) hx hb dX8_matched_21 hl (by decide) rfl (fun ls hl => ?_)
    refine lv_iconst (v := (0 : Int32)) hx hb dX8_matched_23 (by decide) ?_
    refine lv_istore (lv' := [(6, .int (0 : Int32)), (5, .int (-1 : Int32)), (0, .ref x0), (1, .ref x1), (2, .ref x2), (3, .int x3), (4, .int x4)]) hx hb dX8_matched_24 hl (by decide) rfl (fun ls hl => ?_)
    refine lv_iconst (v := (0 : Int32)) hx hb dX8_matched_26 (by decide) ?_
    refine lv_istore (lv' := [(7, .int (0 : Int32)), (6, .int (0 : Int32)), (5, .int (-1 : Int32)), (0, .ref x0), (1, .ref x1), (2, .ref x2), (3, .int x3), (4, .int x4)]) hx hb dX8_matched_27 hl (by decide) rfl (fun ls hl => ?_)
    exact w_X8_matched_29 X hret _ x0 x1 x2 x3 x4 (-1 : Int32) (0 : Int32) (0 : Int32) _ _ _ _ _ _ hf hCT hM (lv_sub hl [3, 4, 5, 6, 7, 2, 1, 0] rfl)
def g_X8_matched (x0 : Nat) (x1 : Nat) (x2 : Nat) (x3 : Int32) (x4 : Int32) (S : ZS) (mc ms : Nat) (Pw : Int32 → ZS → Prop) : Prop := g_X8_matched_0 Pw x0 x1 x2 x3 x4 S mc ms
theorem c_X8_matched {l : Launch} {D : va_G} {y : Nat → ClassId} {x0 : Nat} {x1 : Nat} {x2 : Nat} {x3 : Int32} {x4 : Int32} {S : ZS} {kc kt : Nat} {Pw : Int32 → ZS → Prop} (hf : g_X8_matched x0 x1 x2 x3 x4 S kc kt Pw) : zWi l yX8_matched wsX8_matched ({ frames := 7, cells := kc, slots := kt, locals := 151 } : Room) [.ref x0, .ref x1, .ref x2, .int x3, .int x4] D y S kc kt Pw :=
  z_wentI (own := RX8) (cc := cX8_matched) (maxL := 8) (by decide) rfl rfl (Nat.le_of_ble_eq_true rfl) ⟨rfl, rfl⟩ (fun p e s m args below meth c A0 Q H locs ls X hret hM hl => w_X8_matched_0 X hret hf ⟨Nat.le_refl _, Nat.le_refl _⟩ hM (lv_sub hl [0, 1, 2, 3, 4] rfl))
theorem hd_X8_matched : yX8_matched.cls = RX8 ∧ yX8_matched.cls ≠ "java/lang/invoke/MethodHandle" ∧ yX8_matched.cls ≠ "java/lang/invoke/VarHandle" ∧ (parseMethodDescriptor yX8_matched.desc).map (fun d => d.parameters.length) = some 4 := by decide +kernel
def f_X2_shortMark_56 (t0 : Int32) (S : ZS) : Option (Int32 × ZS) :=
  some (t0, S)

set_option maxRecDepth 100000 in
set_option maxHeartbeats 4000000 in
theorem w_X2_shortMark_56 {p : Program} {l : Launch} {e : Env} {s : State} {m : MethodId} {args : Array Value} {below : List Frame} {meth : Method} {c : Code} {Q : State → Prop} {D : va_G} {y : Nat → ClassId} {A0 : Nat → Prop} {o : Int32 × ZS} (X : CallFix p m c cX2_shortMark 2 s args wsX2_shortMark RX2) (hret : zRi p l e ({ frames := 0, cells := 0, slots := 0, locals := 0 } : Room) s m args below meth c Q cX2_shortMark D y A0 .int o) {t0 : Int32} {S : ZS} {H : Heap} {locs : List Loc} {ls : Array Slot} (hf : f_X2_shortMark_56 t0 S = some o) (hM : zH D y A0 s H locs S) (hl : lv_has ls 2 []) : W p l e ({ frames := 0, cells := 0, slots := 0, locals := 0 } : Room) s m args below meth c H locs 0 0 Q (F0 m 56 ls [.int t0]) := by
  obtain ⟨hx, hb, hml, hown, hts⟩ := id X
  unfold f_X2_shortMark_56 at hf
  cases hf
  exact hret H locs _ ls hM rfl dX2_shortMark_56
def f_X2_shortMark_27 (t0 : Int32) (S : ZS) : Option (Int32 × ZS) :=
  some (t0, S)

set_option maxRecDepth 100000 in
set_option maxHeartbeats 4000000 in
theorem w_X2_shortMark_27 {p : Program} {l : Launch} {e : Env} {s : State} {m : MethodId} {args : Array Value} {below : List Frame} {meth : Method} {c : Code} {Q : State → Prop} {D : va_G} {y : Nat → ClassId} {A0 : Nat → Prop} {o : Int32 × ZS} (X : CallFix p m c cX2_shortMark 2 s args wsX2_shortMark RX2) (hret : zRi p l e ({ frames := 0, cells := 0, slots := 0, locals := 0 } : Room) s m args below meth c Q cX2_shortMark D y A0 .int o) {t0 : Int32} {S : ZS} {H : Heap} {locs : List Loc} {ls : Array Slot} (hf : f_X2_shortMark_27 t0 S = some o) (hM : zH D y A0 s H locs S) (hl : lv_has ls 2 []) : W p l e ({ frames := 0, cells := 0, slots := 0, locals := 0 } : Room) s m args below meth c H locs 0 0 Q (F0 m 27 ls [.int t0]) := by
  obtain ⟨hx, hb, hml, hown, hts⟩ := id X
  unfold f_X2_shortMark_27 at hf
  cases hf
  exact hret H locs _ ls hM rfl dX2_shortMark_27
def f_X2_shortMark_0 (x0 : Int32) (x1 : Int32) (S : ZS) : Option (Int32 × ZS) :=
  m_if (x0 = (33 : Int32)) (
  m_if (x1 = (33 : Int32)) (
  f_X2_shortMark_27 (3 : Int32) S
  ) (
  m_if (x1 = (63 : Int32)) (
  f_X2_shortMark_27 (5 : Int32) S
  ) (
  f_X2_shortMark_27 (1 : Int32) S
  )
  )
  ) (
  m_if (x0 = (63 : Int32)) (
  m_if (x1 = (63 : Int32)) (
  f_X2_shortMark_56 (4 : Int32) S
  ) (
  m_if (x1 = (33 : Int32)) (
  f_X2_shortMark_56 (6 : Int32) S
  ) (
  f_X2_shortMark_56 (2 : Int32) S
  )
  )
  ) (
  some ((0 : Int32), S)
  )
  )

set_option maxRecDepth 100000 in
set_option maxHeartbeats 4000000 in
theorem w_X2_shortMark_0 {p : Program} {l : Launch} {e : Env} {s : State} {m : MethodId} {args : Array Value} {below : List Frame} {meth : Method} {c : Code} {Q : State → Prop} {D : va_G} {y : Nat → ClassId} {A0 : Nat → Prop} {o : Int32 × ZS} (X : CallFix p m c cX2_shortMark 2 s args wsX2_shortMark RX2) (hret : zRi p l e ({ frames := 0, cells := 0, slots := 0, locals := 0 } : Room) s m args below meth c Q cX2_shortMark D y A0 .int o) {x0 : Int32} {x1 : Int32} {S : ZS} {H : Heap} {locs : List Loc} {ls : Array Slot} (hf : f_X2_shortMark_0 x0 x1 S = some o) (hM : zH D y A0 s H locs S) (hl : lv_has ls 2 [(0, .int x0), (1, .int x1)]) : W p l e ({ frames := 0, cells := 0, slots := 0, locals := 0 } : Room) s m args below meth c H locs 0 0 Q (F0 m 0 ls []) := by
  obtain ⟨hx, hb, hml, hown, hts⟩ := id X
  unfold f_X2_shortMark_0 at hf
  refine lv_iload_n hx hb dX2_shortMark_0 rfl (lv_at hl 0 rfl) ?_
  refine lv_bipush (v := (33 : Int32)) hx hb dX2_shortMark_1 (by decide) ?_
  refine lv_icmp_ne (tgt := 28) hx hb dX2_shortMark_3 (by decide) (fun cc1 => ?_) (fun cc1 => ?_)
  · replace hf := m_ifF hf cc1
    refine lv_iload_n hx hb dX2_shortMark_28 rfl (lv_at hl 0 rfl) ?_
    refine lv_bipush (v := (63 : Int32)) hx hb dX2_shortMark_29 (by decide) ?_
    refine lv_icmp_ne (tgt := 57) hx hb dX2_shortMark_31 (by decide) (fun cc1 => ?_) (fun cc1 => ?_)
    · replace hf := m_ifF hf cc1
      refine lv_iconst (v := (0 : Int32)) hx hb dX2_shortMark_57 (by decide) ?_
      cases hf
      exact hret H locs _ ls hM rfl dX2_shortMark_58
    · replace hf := m_ifT hf cc1
      refine lv_iload_n hx hb dX2_shortMark_34 rfl (lv_at hl 1 rfl) ?_
      refine lv_bipush (v := (63 : Int32)) hx hb dX2_shortMark_35 (by decide) ?_
      refine lv_icmp_ne (tgt := 44) hx hb dX2_shortMark_37 (by decide) (fun cc1 => ?_) (fun cc1 => ?_)
      · replace hf := m_ifF hf cc1
        refine lv_iload_n hx hb dX2_shortMark_44 rfl (lv_at hl 1 rfl) ?_
        refine lv_bipush (v := (33 : Int32)) hx hb dX2_shortMark_45 (by decide) ?_
        refine lv_icmp_ne (tgt := 55) hx hb dX2_shortMark_47 (by decide) (fun cc1 => ?_) (fun cc1 => ?_)
        · replace hf := m_ifF hf cc1
          refine lv_iconst (v := (2 : Int32)) hx hb dX2_shortMark_55 (by decide) ?_
          exact w_X2_shortMark_56 (t0 := (2 : Int32)) X hret hf hM (lv_sub hl [] rfl)
        · replace hf := m_ifT hf cc1
          refine lv_bipush (v := (6 : Int32)) hx hb dX2_shortMark_50 (by decide) ?_
          refine lv_goto (tgt := 56) hx hb dX2_shortMark_52 (by decide) ?_
          exact w_X2_shortMark_56 (t0 := (6 : Int32)) X hret hf hM (lv_sub hl [] rfl)
      · replace hf := m_ifT hf cc1
        refine lv_iconst (v := (4 : Int32)) hx hb dX2_shortMark_40 (by decide) ?_
        refine lv_goto (tgt := 56) hx hb dX2_shortMark_41 (by decide) ?_
        exact w_X2_shortMark_56 (t0 := (4 : Int32)) X hret hf hM (lv_sub hl [] rfl)
  · replace hf := m_ifT hf cc1
    refine lv_iload_n hx hb dX2_shortMark_6 rfl (lv_at hl 1 rfl) ?_
    refine lv_bipush (v := (33 : Int32)) hx hb dX2_shortMark_7 (by decide) ?_
    refine lv_icmp_ne (tgt := 16) hx hb dX2_shortMark_9 (by decide) (fun cc1 => ?_) (fun cc1 => ?_)
    · replace hf := m_ifF hf cc1
      refine lv_iload_n hx hb dX2_shortMark_16 rfl (lv_at hl 1 rfl) ?_
      refine lv_bipush (v := (63 : Int32)) hx hb dX2_shortMark_17 (by decide) ?_
      refine lv_icmp_ne (tgt := 26) hx hb dX2_shortMark_19 (by decide) (fun cc1 => ?_) (fun cc1 => ?_)
      · replace hf := m_ifF hf cc1
        refine lv_iconst (v := (1 : Int32)) hx hb dX2_shortMark_26 (by decide) ?_
        exact w_X2_shortMark_27 (t0 := (1 : Int32)) X hret hf hM (lv_sub hl [] rfl)
      · replace hf := m_ifT hf cc1
        refine lv_iconst (v := (5 : Int32)) hx hb dX2_shortMark_22 (by decide) ?_
        refine lv_goto (tgt := 27) hx hb dX2_shortMark_23 (by decide) ?_
        exact w_X2_shortMark_27 (t0 := (5 : Int32)) X hret hf hM (lv_sub hl [] rfl)
    · replace hf := m_ifT hf cc1
      refine lv_iconst (v := (3 : Int32)) hx hb dX2_shortMark_12 (by decide) ?_
      refine lv_goto (tgt := 27) hx hb dX2_shortMark_13 (by decide) ?_
      exact w_X2_shortMark_27 (t0 := (3 : Int32)) X hret hf hM (lv_sub hl [] rfl)
def f_X2_shortMark (x0 : Int32) (x1 : Int32) (S : ZS) : Option (Int32 × ZS) := f_X2_shortMark_0 x0 x1 S
theorem c_X2_shortMark {l : Launch} {D : va_G} {y : Nat → ClassId} {x0 : Int32} {x1 : Int32} {S : ZS} {o : Int32 × ZS} (hf : f_X2_shortMark x0 x1 S = some o) : zMi l yX2_shortMark wsX2_shortMark ({ frames := 0, cells := 0, slots := 0, locals := 0 } : Room) [.int x0, .int x1] D y S o :=
  z_entryI (own := RX2) (cc := cX2_shortMark) (maxL := 2) (by decide) rfl rfl (Nat.le_of_ble_eq_true rfl) (fun p e s m args below meth c A0 Q H locs ls X hret hM hl => w_X2_shortMark_0 X hret hf hM (lv_sub hl [0, 1] rfl))
theorem hd_X2_shortMark : yX2_shortMark.cls ≠ "java/lang/invoke/MethodHandle" ∧ yX2_shortMark.cls ≠ "java/lang/invoke/VarHandle" ∧ (parseMethodDescriptor yX2_shortMark.desc).map (fun d => d.parameters.length) = some 2 := by decide +kernel
theorem fl_X4_putMark_4_4 : Cond.fieldLink RX4 24 "MoveTexts$Node" "markCount" "I" ∈ wsX4_putMark := by decide +kernel
theorem fl_X4_putMark_4_5 : Cond.fieldLink RX4 27 "MoveTexts$Node" "marks" "I" ∈ wsX4_putMark := by decide +kernel
theorem hw_X4_putMark_4 : ∀ w ∈ wsX40, w ∈ wsX4_putMark := by decide +kernel
def f_X4_putMark_0 (x0 : Nat) (x1 : Int32) (S : ZS) : Option (Int32 × ZS) :=
  m_chk (x0 ∈ zL S ∧ zK S x0 = 4) (
  m_chk (x0 ∈ zL S ∧ zK S x0 = 4) (
  m_bnd ((8 : Int32) * (zI S 4 x0)) (fun v1 =>
  m_bnd (x1 <<< (v1 &&& 31)) (fun v2 =>
  m_bnd ((zI S 5 x0) ||| v2) (fun v3 =>
  m_chk (x0 ∈ zL S ∧ zK S x0 = 4) (
  m_bnd (zsI S 5 x0 v3) (fun S4 =>
  m_chk (x0 ∈ zL S4 ∧ zK S4 x0 = 4) (
  m_bnd ((zI S4 4 x0) + (1 : Int32)) (fun v5 =>
  m_chk (x0 ∈ zL S4 ∧ zK S4 x0 = 4) (
  m_bnd (zsI S4 4 x0 v5) (fun S6 =>
  some (0, S6))))))))))))

set_option maxRecDepth 100000 in
set_option maxHeartbeats 4000000 in
theorem w_X4_putMark_0 {p : Program} {l : Launch} {e : Env} {s : State} {m : MethodId} {args : Array Value} {below : List Frame} {meth : Method} {c : Code} {Q : State → Prop} {D : va_G} {y : Nat → ClassId} {A0 : Nat → Prop} {o : Int32 × ZS} (X : CallFix p m c cX4_putMark 2 s args wsX4_putMark RX4) (hret : zRv p l e ({ frames := 0, cells := 0, slots := 0, locals := 0 } : Room) s m args below meth c Q cX4_putMark D y A0 o) {x0 : Nat} {x1 : Int32} {S : ZS} {H : Heap} {locs : List Loc} {ls : Array Slot} (hf : f_X4_putMark_0 x0 x1 S = some o) (hM : zH D y A0 s H locs S) (hl : lv_has ls 2 [(0, .ref x0), (1, .int x1)]) : W p l e ({ frames := 0, cells := 0, slots := 0, locals := 0 } : Room) s m args below meth c H locs 0 0 Q (F0 m 0 ls []) := by
  obtain ⟨hx, hb, hml, hown, hts⟩ := id X
  unfold f_X4_putMark_0 at hf
  refine lv_aload_n hx hb dX4_putMark_0 rfl (lv_at hl 0 rfl) ?_
  refine lv_dup hx hb dX4_putMark_1 rfl ?_
  obtain ⟨ca, hf⟩ := m_chkE hf
  refine z_get (k := 4) (j := 5) (C := RX4) (T := TX4) (N := 7) (fl := zf_4) (v := .int (zI S 5 x0)) X hw_X4_putMark_4 hM rfl zc_4 ca (by decide) fl_X4_putMark_4_5 rfl dX4_putMark_2 ?_
  clear ca
  refine lv_iload_n hx hb dX4_putMark_5 rfl (lv_at hl 1 rfl) ?_
  refine lv_bipush (v := (8 : Int32)) hx hb dX4_putMark_6 (by decide) ?_
  refine lv_aload_n hx hb dX4_putMark_8 rfl (lv_at hl 0 rfl) ?_
  obtain ⟨ca, hf⟩ := m_chkE hf
  refine z_get (k := 4) (j := 4) (C := RX4) (T := TX4) (N := 7) (fl := zf_4) (v := .int (zI S 4 x0)) X hw_X4_putMark_4 hM rfl zc_4 ca (by decide) fl_X4_putMark_4_4 rfl dX4_putMark_9 ?_
  clear ca
  refine lv_imul hx hb dX4_putMark_12 ?_
  obtain ⟨v1, ev, hf⟩ := m_bndE hf
  refine m_top ev ?_
  clear ev
  refine lv_ishl hx hb dX4_putMark_13 ?_
  obtain ⟨v2, ev, hf⟩ := m_bndE hf
  refine m_top ev ?_
  clear ev
  refine lv_ior hx hb dX4_putMark_14 ?_
  obtain ⟨v3, ev, hf⟩ := m_bndE hf
  refine m_top ev ?_
  clear ev
  obtain ⟨ca, hf⟩ := m_chkE hf
  refine z_putI (k := 4) (j := 5) (C := RX4) (T := TX4) (N := 7) (fl := zf_4) (ty := .int) X hw_X4_putMark_4 tyX4_ok nmX4 hM rfl zc_4 ca (by decide) fl_X4_putMark_4_5 rfl (tyX4_ok 5 (by decide)) rfl rfl zi_4_5 (Nat.le_of_ble_eq_true rfl) dX4_putMark_15 (fun H locs hM => ?_)
  clear ca
  obtain ⟨S4, ev, hf⟩ := m_bndE hf
  replace hM := z_hS hM ev
  clear ev
  refine lv_aload_n hx hb dX4_putMark_18 rfl (lv_at hl 0 rfl) ?_
  refine lv_dup hx hb dX4_putMark_19 rfl ?_
  obtain ⟨ca, hf⟩ := m_chkE hf
  refine z_get (k := 4) (j := 4) (C := RX4) (T := TX4) (N := 7) (fl := zf_4) (v := .int (zI S4 4 x0)) X hw_X4_putMark_4 hM rfl zc_4 ca (by decide) fl_X4_putMark_4_4 rfl dX4_putMark_20 ?_
  clear ca
  refine lv_iconst (v := (1 : Int32)) hx hb dX4_putMark_23 (by decide) ?_
  refine lv_iadd hx hb dX4_putMark_24 ?_
  obtain ⟨v5, ev, hf⟩ := m_bndE hf
  refine m_top ev ?_
  clear ev
  obtain ⟨ca, hf⟩ := m_chkE hf
  refine z_putI (k := 4) (j := 4) (C := RX4) (T := TX4) (N := 7) (fl := zf_4) (ty := .int) X hw_X4_putMark_4 tyX4_ok nmX4 hM rfl zc_4 ca (by decide) fl_X4_putMark_4_4 rfl (tyX4_ok 4 (by decide)) rfl rfl zi_4_4 (Nat.le_of_ble_eq_true rfl) dX4_putMark_25 (fun H locs hM => ?_)
  clear ca
  obtain ⟨S6, ev, hf⟩ := m_bndE hf
  replace hM := z_hS hM ev
  clear ev
  cases hf
  exact hret H locs _ ls hM dX4_putMark_28
def f_X4_putMark (x0 : Nat) (x1 : Int32) (S : ZS) : Option (Int32 × ZS) := f_X4_putMark_0 x0 x1 S
theorem c_X4_putMark {l : Launch} {D : va_G} {y : Nat → ClassId} {x0 : Nat} {x1 : Int32} {S : ZS} {o : Int32 × ZS} (hf : f_X4_putMark x0 x1 S = some o) : zMv l yX4_putMark wsX4_putMark ({ frames := 0, cells := 0, slots := 0, locals := 0 } : Room) [.ref x0, .int x1] D y S o :=
  z_entryV (own := RX4) (cc := cX4_putMark) (maxL := 2) (by decide) rfl rfl (Nat.le_of_ble_eq_true rfl) (fun p e s m args below meth c A0 Q H locs ls X hret hM hl => w_X4_putMark_0 X hret hf hM (lv_sub hl [0, 1] rfl))
theorem hd_X4_putMark : yX4_putMark.cls = RX4 ∧ yX4_putMark.cls ≠ "java/lang/invoke/MethodHandle" ∧ yX4_putMark.cls ≠ "java/lang/invoke/VarHandle" ∧ (parseMethodDescriptor yX4_putMark.desc).map (fun d => d.parameters.length) = some 1 := by decide +kernel
theorem fl_X2_readMark_2_2 : Cond.fieldLink RX2 28 "MoveTexts$GameReader" "text" "LMoveTexts$Row;" ∈ wsX2_readMark := by decide +kernel
theorem fl_X2_readMark_2_4 : Cond.fieldLink RX2 39 "MoveTexts$GameReader" "at" "I" ∈ wsX2_readMark := by decide +kernel
theorem fl_X2_readMark_4_4 : Cond.fieldLink RX2 221 "MoveTexts$Node" "markCount" "I" ∈ wsX2_readMark := by decide +kernel
theorem hw_X2_readMark_2 : ∀ w ∈ wsX20, w ∈ wsX2_readMark := by decide +kernel
theorem hw_X2_readMark_4 : ∀ w ∈ wsX40, w ∈ wsX2_readMark := by decide +kernel
theorem nn_X2_readMark_136 : ((RX2, 136, yX11_isDigit, "MoveTexts") ∈ zNW ∧ Cond.initialized yX11_isDigit.cls ∈ wsX2_readMark) ∧ Cond.static yX11_isDigit ∈ wsX2_readMark := by decide +kernel
def f_X2_readMark_56 (x0 : Nat) (x2 : Int32) (S : ZS) : Option (Int32 × ZS) :=
  m_chk (x0 ∈ zL S ∧ zK S x0 = 2) (
  m_cal (f_X2_refuse x0 (8 : Int32) x2 S) (fun o1 =>
  m_chk (vp_nar .boolean o1.1 = o1.1) (some (o1.1, o1.2))))

set_option maxRecDepth 100000 in
set_option maxHeartbeats 4000000 in
theorem w_X2_readMark_56 {p : Program} {l : Launch} {e : Env} {s : State} {m : MethodId} {args : Array Value} {below : List Frame} {meth : Method} {c : Code} {Q : State → Prop} {D : va_G} {y : Nat → ClassId} {A0 : Nat → Prop} {o : Int32 × ZS} (X : CallFix p m c cX2_readMark 4 s args wsX2_readMark RX2) (hret : zRi p l e ({ frames := 2, cells := 0, slots := 0, locals := 44 } : Room) s m args below meth c Q cX2_readMark D y A0 .boolean o) {x0 : Nat} {x2 : Int32} {S : ZS} {H : Heap} {locs : List Loc} {ls : Array Slot} (hf : f_X2_readMark_56 x0 x2 S = some o) (hM : zH D y A0 s H locs S) (hl : lv_has ls 4 [(0, .ref x0), (2, .int x2)]) : W p l e ({ frames := 2, cells := 0, slots := 0, locals := 44 } : Room) s m args below meth c H locs 0 0 Q (F0 m 56 ls []) := by
  obtain ⟨hx, hb, hml, hown, hts⟩ := id X
  unfold f_X2_readMark_56 at hf
  refine lv_aload_n hx hb dX2_readMark_56 rfl (lv_at hl 0 rfl) ?_
  refine lv_bipush (v := (8 : Int32)) hx hb dX2_readMark_57 (by decide) ?_
  refine lv_iload_n hx hb dX2_readMark_59 rfl (lv_at hl 1 rfl) ?_
  obtain ⟨ca, hf⟩ := m_chkE hf
  obtain ⟨o1, ho, hf⟩ := m_calE hf
  refine z_callVi (k := 2) (C := RX2) (T := TX2) (N := 12) (fl := zf_2) X hM rfl zc_2 ca (c_X2_refuse ho) gX2_readMark_X2_refuse rfl ⟨rfl, rfl⟩ hd_X2_refuse ⟨Nat.le_of_ble_eq_true rfl, Nat.le_of_ble_eq_true rfl⟩ rfl hl.1 rfl (Nat.le_of_ble_eq_true rfl) dX2_readMark_60 (fun H locs hM => ?_)
  clear ho
  obtain ⟨cd, hf⟩ := m_chkE hf
  cases hf
  exact hret H locs _ ls hM (m_nb cd) dX2_readMark_63
def f_X2_readMark_0 (x0 : Nat) (x1 : Nat) (S : ZS) : Option (Int32 × ZS) :=
  m_chk (x0 ∈ zL S ∧ zK S x0 = 2) (
  m_chk (x0 ∈ zL S ∧ zK S x0 = 2) (
  m_bnd ((zI S 4 x0) + (1 : Int32)) (fun v1 =>
  m_chk (x0 ∈ zL S ∧ zK S x0 = 2) (
  m_bnd (zsI S 4 x0 v1) (fun S2 =>
  m_chk (x0 ∈ zL S2 ∧ zK S2 x0 = 2) (
  m_cal (f_X2_readDigits x0 (3 : Int32) S2) (fun o3 =>
  m_chk (x0 ∈ zL o3.2 ∧ zK o3.2 x0 = 2) (
  m_bnd ((zI S 4 x0) + (1 : Int32)) (fun v4 =>
  m_if ((zI o3.2 4 x0) = v4) (
  m_chk (x0 ∈ zL o3.2 ∧ zK o3.2 x0 = 2) (
  m_chk (x0 ∈ zL o3.2 ∧ zK o3.2 x0 = 2) (
  m_cal (f_X2_refuse x0 (1 : Int32) (zI o3.2 4 x0) o3.2) (fun o10 =>
  m_chk (vp_nar .boolean o10.1 = o10.1) (some (o10.1, o10.2)))))
  ) (
  m_if ((255 : Int32) < o3.1) (
  f_X2_readMark_56 x0 (zI S 4 x0) o3.2
  ) (
  m_chk (x1 ∈ zL o3.2 ∧ zK o3.2 x1 = 4) (
  m_if ((zI o3.2 4 x1) < (4 : Int32)) (
  m_chk (x0 ∈ zL o3.2 ∧ zK o3.2 x0 = 2) (
  m_cal (zP o3.2 2 x0) (fun b5 =>
  m_chk (x0 ∈ zL o3.2 ∧ zK o3.2 x0 = 2) (
  m_chk (b5 ∈ zL o3.2 ∧ zK o3.2 b5 = 6) (
  m_cal (f_X6_at b5 (zI o3.2 4 x0) o3.2) (fun o6 =>
  m_cal (f_X11_isDigit o6.1 o6.2) (fun o7 =>
  m_if (o7.1 = 0) (
  m_chk (x1 ∈ zL o7.2 ∧ zK o7.2 x1 = 4) (
  m_cal (f_X4_putMark x1 o3.1 o7.2) (fun o8 =>
  m_chk (vp_nar .boolean (1 : Int32) = (1 : Int32)) (some ((1 : Int32), o8.2))))
  ) (
  m_chk (x0 ∈ zL o7.2 ∧ zK o7.2 x0 = 2) (
  m_chk (x0 ∈ zL o7.2 ∧ zK o7.2 x0 = 2) (
  m_cal (f_X2_refuse x0 (1 : Int32) (zI o7.2 4 x0) o7.2) (fun o9 =>
  m_chk (vp_nar .boolean o9.1 = o9.1) (some (o9.1, o9.2)))))
  )))))))
  ) (
  f_X2_readMark_56 x0 (zI S 4 x0) o3.2
  ))
  )
  ))))))))))

set_option maxRecDepth 100000 in
set_option maxHeartbeats 4000000 in
theorem w_X2_readMark_0 {p : Program} {l : Launch} {e : Env} {s : State} {m : MethodId} {args : Array Value} {below : List Frame} {meth : Method} {c : Code} {Q : State → Prop} {D : va_G} {y : Nat → ClassId} {A0 : Nat → Prop} {o : Int32 × ZS} (X : CallFix p m c cX2_readMark 4 s args wsX2_readMark RX2) (hret : zRi p l e ({ frames := 2, cells := 0, slots := 0, locals := 44 } : Room) s m args below meth c Q cX2_readMark D y A0 .boolean o) {x0 : Nat} {x1 : Nat} {S : ZS} {H : Heap} {locs : List Loc} {ls : Array Slot} (hf : f_X2_readMark_0 x0 x1 S = some o) (hM : zH D y A0 s H locs S) (hl : lv_has ls 4 [(0, .ref x0), (1, .ref x1)]) : W p l e ({ frames := 2, cells := 0, slots := 0, locals := 44 } : Room) s m args below meth c H locs 0 0 Q (F0 m 0 ls []) := by
  obtain ⟨hx, hb, hml, hown, hts⟩ := id X
  unfold f_X2_readMark_0 at hf
  refine lv_aload_n hx hb dX2_readMark_0 rfl (lv_at hl 0 rfl) ?_
  obtain ⟨ca, hf⟩ := m_chkE hf
  refine z_get (k := 2) (j := 4) (C := RX2) (T := TX2) (N := 12) (fl := zf_2) (v := .int (zI S 4 x0)) X hw_X2_readMark_2 hM rfl zc_2 ca (by decide) fl_X2_readMark_2_4 rfl dX2_readMark_1 ?_
  clear ca
  refine lv_istore_n (lv' := [(2, .int (zI S 4 x0)), (0, .ref x0), (1, .ref x1)]) hx hb dX2_readMark_4 rfl hl (by decide) rfl (fun ls hl => ?_)
  refine lv_aload_n hx hb dX2_readMark_5 rfl (lv_at hl 1 rfl) ?_
  refine lv_dup hx hb dX2_readMark_6 rfl ?_
  obtain ⟨ca, hf⟩ := m_chkE hf
  refine z_get (k := 2) (j := 4) (C := RX2) (T := TX2) (N := 12) (fl := zf_2) (v := .int (zI S 4 x0)) X hw_X2_readMark_2 hM rfl zc_2 ca (by decide) fl_X2_readMark_2_4 rfl dX2_readMark_7 ?_
  clear ca
  refine lv_iconst (v := (1 : Int32)) hx hb dX2_readMark_10 (by decide) ?_
  refine lv_iadd hx hb dX2_readMark_11 ?_
  obtain ⟨v1, ev, hf⟩ := m_bndE hf
  refine m_top ev ?_
  clear ev
  obtain ⟨ca, hf⟩ := m_chkE hf
  refine z_putI (k := 2) (j := 4) (C := RX2) (T := TX2) (N := 12) (fl := zf_2) (ty := .int) X hw_X2_readMark_2 tyX2_ok nmX2 hM rfl zc_2 ca (by decide) fl_X2_readMark_2_4 rfl (tyX2_ok 4 (by decide)) rfl rfl zi_2_4 (Nat.le_of_ble_eq_true rfl) dX2_readMark_12 (fun H locs hM => ?_)
  clear ca
  obtain ⟨S2, ev, hf⟩ := m_bndE hf
  replace hM := z_hS hM ev
  clear ev
  refine lv_aload_n hx hb dX2_readMark_15 rfl (lv_at hl 1 rfl) ?_
  refine lv_iconst (v := (3 : Int32)) hx hb dX2_readMark_16 (by decide) ?_
  obtain ⟨ca, hf⟩ := m_chkE hf
  obtain ⟨o3, ho, hf⟩ := m_calE hf
  refine z_callVi (k := 2) (C := RX2) (T := TX2) (N := 12) (fl := zf_2) X hM rfl zc_2 ca (c_X2_readDigits ho) gX2_readMark_X2_readDigits rfl ⟨rfl, rfl⟩ hd_X2_readDigits ⟨Nat.le_of_ble_eq_true rfl, Nat.le_of_ble_eq_true rfl⟩ rfl hl.1 rfl (Nat.le_of_ble_eq_true rfl) dX2_readMark_17 (fun H locs hM => ?_)
  clear ho
  refine lv_istore_n (lv' := [(3, .int o3.1), (2, .int (zI S 4 x0)), (0, .ref x0), (1, .ref x1)]) hx hb dX2_readMark_20 rfl hl (by decide) rfl (fun ls hl => ?_)
  refine lv_aload_n hx hb dX2_readMark_21 rfl (lv_at hl 2 rfl) ?_
  obtain ⟨ca, hf⟩ := m_chkE hf
  refine z_get (k := 2) (j := 4) (C := RX2) (T := TX2) (N := 12) (fl := zf_2) (v := .int (zI o3.2 4 x0)) X hw_X2_readMark_2 hM rfl zc_2 ca (by decide) fl_X2_readMark_2_4 rfl dX2_readMark_22 ?_
  clear ca
  refine lv_iload_n hx hb dX2_readMark_25 rfl (lv_at hl 1 rfl) ?_
  refine lv_iconst (v := (1 : Int32)) hx hb dX2_readMark_26 (by decide) ?_
  refine lv_iadd hx hb dX2_readMark_27 ?_
  obtain ⟨v4, ev, hf⟩ := m_bndE hf
  refine m_top ev ?_
  clear ev
  refine lv_icmp_ne (tgt := 41) hx hb dX2_readMark_28 (by decide) (fun cc1 => ?_) (fun cc1 => ?_)
  · replace hf := m_ifF hf cc1
    refine lv_iload_n hx hb dX2_readMark_41 rfl (lv_at hl 0 rfl) ?_
    refine lv_sipush (v := (255 : Int32)) hx hb dX2_readMark_42 (by decide) ?_
    refine lv_icmp_gt (tgt := 56) hx hb dX2_readMark_45 (by decide) (fun cc1 => ?_) (fun cc1 => ?_)
    · replace hf := m_ifT hf cc1
      exact w_X2_readMark_56 (x0 := x0) (x2 := (zI S 4 x0)) X hret hf hM (lv_sub hl [2, 1] rfl)
    · replace hf := m_ifF hf cc1
      refine lv_aload_n hx hb dX2_readMark_48 rfl (lv_at hl 3 rfl) ?_
      obtain ⟨ca, hf⟩ := m_chkE hf
      refine z_get (k := 4) (j := 4) (C := RX4) (T := TX4) (N := 7) (fl := zf_4) (v := .int (zI o3.2 4 x1)) X hw_X2_readMark_4 hM rfl zc_4 ca (by decide) fl_X2_readMark_4_4 rfl dX2_readMark_49 ?_
      clear ca
      refine lv_iconst (v := (4 : Int32)) hx hb dX2_readMark_52 (by decide) ?_
      refine lv_icmp_lt (tgt := 64) hx hb dX2_readMark_53 (by decide) (fun cc1 => ?_) (fun cc1 => ?_)
      · replace hf := m_ifT hf cc1
        refine lv_aload_n hx hb dX2_readMark_64 rfl (lv_at hl 2 rfl) ?_
        obtain ⟨ca, hf⟩ := m_chkE hf
        refine z_get (k := 2) (j := 2) (C := RX2) (T := TX2) (N := 12) (fl := zf_2) (v := va_rf (zP o3.2 2 x0)) X hw_X2_readMark_2 hM rfl zc_2 ca (by decide) fl_X2_readMark_2_2 rfl dX2_readMark_65 ?_
        clear ca
        obtain ⟨b5, hb9, hf⟩ := m_calE hf
        refine z_topr hb9 ?_
        clear hb9
        refine lv_aload_n hx hb dX2_readMark_68 rfl (lv_at hl 2 rfl) ?_
        obtain ⟨ca, hf⟩ := m_chkE hf
        refine z_get (k := 2) (j := 4) (C := RX2) (T := TX2) (N := 12) (fl := zf_2) (v := .int (zI o3.2 4 x0)) X hw_X2_readMark_2 hM rfl zc_2 ca (by decide) fl_X2_readMark_2_4 rfl dX2_readMark_69 ?_
        clear ca
        obtain ⟨ca, hf⟩ := m_chkE hf
        obtain ⟨o6, ho, hf⟩ := m_calE hf
        refine z_callVi (k := 6) (C := RX6) (T := TX6) (N := 2) (fl := zf_6) X hM rfl zc_6 ca (c_X6_at ho) gX2_readMark_X6_at rfl ⟨rfl, rfl⟩ hd_X6_at ⟨Nat.le_of_ble_eq_true rfl, Nat.le_of_ble_eq_true rfl⟩ rfl hl.1 rfl (Nat.le_of_ble_eq_true rfl) dX2_readMark_72 (fun H locs hM => ?_)
        clear ho
        obtain ⟨o7, ho, hf⟩ := m_calE hf
        refine z_callSNi X hM (c_X11_isDigit ho) gX2_readMark_X11_isDigit_n136 nn_X2_readMark_136.1.1 nn_X2_readMark_136.1.2 nn_X2_readMark_136.2 rfl ⟨rfl, rfl⟩ hd_X11_isDigit ⟨Nat.le_of_ble_eq_true rfl, Nat.le_of_ble_eq_true rfl⟩ rfl hl.1 rfl (Nat.le_of_ble_eq_true rfl) dX2_readMark_75 (fun H locs hM => ?_)
        clear ho
        refine lv_if_eq (tgt := 91) hx hb dX2_readMark_78 (by decide) (fun cc1 => ?_) (fun cc1 => ?_)
        · replace hf := m_ifT hf cc1
          refine lv_aload_n hx hb dX2_readMark_91 rfl (lv_at hl 3 rfl) ?_
          refine lv_iload_n hx hb dX2_readMark_92 rfl (lv_at hl 0 rfl) ?_
          obtain ⟨ca, hf⟩ := m_chkE hf
          obtain ⟨o8, ho, hf⟩ := m_calE hf
          refine z_callVv (k := 4) (C := RX4) (T := TX4) (N := 7) (fl := zf_4) X hM rfl zc_4 ca (c_X4_putMark ho) gX2_readMark_X4_putMark rfl ⟨rfl, rfl⟩ hd_X4_putMark ⟨Nat.le_of_ble_eq_true rfl, Nat.le_of_ble_eq_true rfl⟩ rfl hl.1 rfl (Nat.le_of_ble_eq_true rfl) dX2_readMark_93 (fun H locs hM => ?_)
          clear ho
          refine lv_iconst (v := (1 : Int32)) hx hb dX2_readMark_96 (by decide) ?_
          obtain ⟨cd, hf⟩ := m_chkE hf
          cases hf
          exact hret H locs _ ls hM (m_nb cd) dX2_readMark_97
        · replace hf := m_ifF hf cc1
          refine lv_aload_n hx hb dX2_readMark_81 rfl (lv_at hl 2 rfl) ?_
          refine lv_iconst (v := (1 : Int32)) hx hb dX2_readMark_82 (by decide) ?_
          refine lv_aload_n hx hb dX2_readMark_83 rfl (lv_at hl 2 rfl) ?_
          obtain ⟨ca, hf⟩ := m_chkE hf
          refine z_get (k := 2) (j := 4) (C := RX2) (T := TX2) (N := 12) (fl := zf_2) (v := .int (zI o7.2 4 x0)) X hw_X2_readMark_2 hM rfl zc_2 ca (by decide) fl_X2_readMark_2_4 rfl dX2_readMark_84 ?_
          clear ca
          obtain ⟨ca, hf⟩ := m_chkE hf
          obtain ⟨o9, ho, hf⟩ := m_calE hf
          refine z_callVi (k := 2) (C := RX2) (T := TX2) (N := 12) (fl := zf_2) X hM rfl zc_2 ca (c_X2_refuse ho) gX2_readMark_X2_refuse rfl ⟨rfl, rfl⟩ hd_X2_refuse ⟨Nat.le_of_ble_eq_true rfl, Nat.le_of_ble_eq_true rfl⟩ rfl hl.1 rfl (Nat.le_of_ble_eq_true rfl) dX2_readMark_87 (fun H locs hM => ?_)
          clear ho
          obtain ⟨cd, hf⟩ := m_chkE hf
          cases hf
          exact hret H locs _ ls hM (m_nb cd) dX2_readMark_90
      · replace hf := m_ifF hf cc1
        exact w_X2_readMark_56 (x0 := x0) (x2 := (zI S 4 x0)) X hret hf hM (lv_sub hl [2, 1] rfl)
  · replace hf := m_ifT hf cc1
    refine lv_aload_n hx hb dX2_readMark_31 rfl (lv_at hl 2 rfl) ?_
    refine lv_iconst (v := (1 : Int32)) hx hb dX2_readMark_32 (by decide) ?_
    refine lv_aload_n hx hb dX2_readMark_33 rfl (lv_at hl 2 rfl) ?_
    obtain ⟨ca, hf⟩ := m_chkE hf
    refine z_get (k := 2) (j := 4) (C := RX2) (T := TX2) (N := 12) (fl := zf_2) (v := .int (zI o3.2 4 x0)) X hw_X2_readMark_2 hM rfl zc_2 ca (by decide) fl_X2_readMark_2_4 rfl dX2_readMark_34 ?_
    clear ca
    obtain ⟨ca, hf⟩ := m_chkE hf
    obtain ⟨o10, ho, hf⟩ := m_calE hf
    refine z_callVi (k := 2) (C := RX2) (T := TX2) (N := 12) (fl := zf_2) X hM rfl zc_2 ca (c_X2_refuse ho) gX2_readMark_X2_refuse rfl ⟨rfl, rfl⟩ hd_X2_refuse ⟨Nat.le_of_ble_eq_true rfl, Nat.le_of_ble_eq_true rfl⟩ rfl hl.1 rfl (Nat.le_of_ble_eq_true rfl) dX2_readMark_37 (fun H locs hM => ?_)
    clear ho
    obtain ⟨cd, hf⟩ := m_chkE hf
    cases hf
    exact hret H locs _ ls hM (m_nb cd) dX2_readMark_40
def f_X2_readMark (x0 : Nat) (x1 : Nat) (S : ZS) : Option (Int32 × ZS) := f_X2_readMark_0 x0 x1 S
theorem c_X2_readMark {l : Launch} {D : va_G} {y : Nat → ClassId} {x0 : Nat} {x1 : Nat} {S : ZS} {o : Int32 × ZS} (hf : f_X2_readMark x0 x1 S = some o) : zMi l yX2_readMark wsX2_readMark ({ frames := 2, cells := 0, slots := 0, locals := 44 } : Room) [.ref x0, .ref x1] D y S o :=
  z_entryI (own := RX2) (cc := cX2_readMark) (maxL := 4) (by decide) rfl rfl (Nat.le_of_ble_eq_true rfl) (fun p e s m args below meth c A0 Q H locs ls X hret hM hl => w_X2_readMark_0 X hret hf hM (lv_sub hl [0, 1] rfl))
theorem hd_X2_readMark : yX2_readMark.cls = RX2 ∧ yX2_readMark.cls ≠ "java/lang/invoke/MethodHandle" ∧ yX2_readMark.cls ≠ "java/lang/invoke/VarHandle" ∧ (parseMethodDescriptor yX2_readMark.desc).map (fun d => d.parameters.length) = some 1 := by decide +kernel
theorem fl_X2_readMarks_2_2 : Cond.fieldLink RX2 28 "MoveTexts$GameReader" "text" "LMoveTexts$Row;" ∈ wsX2_readMarks := by decide +kernel
theorem fl_X2_readMarks_2_4 : Cond.fieldLink RX2 39 "MoveTexts$GameReader" "at" "I" ∈ wsX2_readMarks := by decide +kernel
theorem hw_X2_readMarks_2 : ∀ w ∈ wsX20, w ∈ wsX2_readMarks := by decide +kernel
def f_X2_readMarks_113 (x3 : Int32) (S : ZS) : Option (Int32 × ZS) :=
  m_chk (vp_nar .boolean x3 = x3) (some (x3, S))

set_option maxRecDepth 100000 in
set_option maxHeartbeats 4000000 in
theorem w_X2_readMarks_113 {p : Program} {l : Launch} {e : Env} {s : State} {m : MethodId} {args : Array Value} {below : List Frame} {meth : Method} {c : Code} {Q : State → Prop} {D : va_G} {y : Nat → ClassId} {A0 : Nat → Prop} {o : Int32 × ZS} (X : CallFix p m c cX2_readMarks 5 s args wsX2_readMarks RX2) (hret : zRi p l e ({ frames := 3, cells := 0, slots := 0, locals := 67 } : Room) s m args below meth c Q cX2_readMarks D y A0 .boolean o) {x3 : Int32} {S : ZS} {H : Heap} {locs : List Loc} {ls : Array Slot} (hf : f_X2_readMarks_113 x3 S = some o) (hM : zH D y A0 s H locs S) (hl : lv_has ls 5 [(3, .int x3)]) : W p l e ({ frames := 3, cells := 0, slots := 0, locals := 67 } : Room) s m args below meth c H locs 0 0 Q (F0 m 113 ls []) := by
  obtain ⟨hx, hb, hml, hown, hts⟩ := id X
  unfold f_X2_readMarks_113 at hf
  refine lv_iload_n hx hb dX2_readMarks_113 rfl (lv_at hl 0 rfl) ?_
  obtain ⟨cd, hf⟩ := m_chkE hf
  cases hf
  exact hret H locs _ ls hM (m_nb cd) dX2_readMarks_114
def f_X2_readMarks_69s (self69 : Nat → Nat → Int32 → Int32 → ZS → Option (Int32 × ZS)) (x0 : Nat) (x1 : Nat) (x3 : Int32) (x4 : Int32) (S : ZS) : Option (Int32 × ZS) :=
  m_if ((2000 : Int32) ≤ x4) (
  f_X2_readMarks_113 x3 S
  ) (
  m_if (x3 = 0) (
  f_X2_readMarks_113 x3 S
  ) (
  m_chk (x0 ∈ zL S ∧ zK S x0 = 2) (
  m_cal (zP S 2 x0) (fun b1 =>
  m_chk (x0 ∈ zL S ∧ zK S x0 = 2) (
  m_chk (b1 ∈ zL S ∧ zK S b1 = 6) (
  m_cal (f_X6_at b1 (zI S 4 x0) S) (fun o2 =>
  m_if (o2.1 = (36 : Int32)) (
  m_chk (x0 ∈ zL o2.2 ∧ zK o2.2 x0 = 2) (
  m_cal (f_X2_readMark x0 x1 o2.2) (fun o3 =>
  m_chk (x0 ∈ zL o3.2 ∧ zK o3.2 x0 = 2) (
  m_cal (f_X2_skipBlanks x0 o3.2) (fun o4 =>
  m_bnd (x4 + (1 : Int32)) (fun v5 =>
  self69 x0 x1 o3.1 v5 o4.2)))))
  ) (
  f_X2_readMarks_113 x3 o2.2
  ))))))
  )
  )

set_option maxRecDepth 100000 in
set_option maxHeartbeats 4000000 in
theorem ws_X2_readMarks_69 {p : Program} {l : Launch} {e : Env} {s : State} {m : MethodId} {args : Array Value} {below : List Frame} {meth : Method} {c : Code} {Q : State → Prop} {D : va_G} {y : Nat → ClassId} {A0 : Nat → Prop} {o : Int32 × ZS} (X : CallFix p m c cX2_readMarks 5 s args wsX2_readMarks RX2) (hret : zRi p l e ({ frames := 3, cells := 0, slots := 0, locals := 67 } : Room) s m args below meth c Q cX2_readMarks D y A0 .boolean o) {self69 : Nat → Nat → Int32 → Int32 → ZS → Option (Int32 × ZS)} (hself69 : ∀ (x0 : Nat) (x1 : Nat) (x3 : Int32) (x4 : Int32) (S : ZS) (H : Heap) (locs : List Loc) (ls : Array Slot), self69 x0 x1 x3 x4 S = some o → zH D y A0 s H locs S → lv_has ls 5 [(0, .ref x0), (1, .ref x1), (3, .int x3), (4, .int x4)] → W p l e ({ frames := 3, cells := 0, slots := 0, locals := 67 } : Room) s m args below meth c H locs 0 0 Q (F0 m 69 ls [])) {x0 : Nat} {x1 : Nat} {x3 : Int32} {x4 : Int32} {S : ZS} {H : Heap} {locs : List Loc} {ls : Array Slot} (hf : f_X2_readMarks_69s self69 x0 x1 x3 x4 S = some o) (hM : zH D y A0 s H locs S) (hl : lv_has ls 5 [(0, .ref x0), (1, .ref x1), (3, .int x3), (4, .int x4)]) : W p l e ({ frames := 3, cells := 0, slots := 0, locals := 67 } : Room) s m args below meth c H locs 0 0 Q (F0 m 69 ls []) := by
  obtain ⟨hx, hb, hml, hown, hts⟩ := id X
  unfold f_X2_readMarks_69s at hf
  refine lv_iload hx hb dX2_readMarks_69 (lv_at hl 3 rfl) ?_
  refine lv_sipush (v := (2000 : Int32)) hx hb dX2_readMarks_71 (by decide) ?_
  refine lv_icmp_ge (tgt := 113) hx hb dX2_readMarks_74 (by decide) (fun cc1 => ?_) (fun cc1 => ?_)
  · replace hf := m_ifT hf cc1
    exact w_X2_readMarks_113 (x3 := x3) X hret hf hM (lv_sub hl [2] rfl)
  · replace hf := m_ifF hf cc1
    refine lv_iload_n hx hb dX2_readMarks_77 rfl (lv_at hl 2 rfl) ?_
    refine lv_if_eq (tgt := 113) hx hb dX2_readMarks_78 (by decide) (fun cc1 => ?_) (fun cc1 => ?_)
    · replace hf := m_ifT hf cc1
      exact w_X2_readMarks_113 (x3 := x3) X hret hf hM (lv_sub hl [2] rfl)
    · replace hf := m_ifF hf cc1
      refine lv_aload_n hx hb dX2_readMarks_81 rfl (lv_at hl 0 rfl) ?_
      obtain ⟨ca, hf⟩ := m_chkE hf
      refine z_get (k := 2) (j := 2) (C := RX2) (T := TX2) (N := 12) (fl := zf_2) (v := va_rf (zP S 2 x0)) X hw_X2_readMarks_2 hM rfl zc_2 ca (by decide) fl_X2_readMarks_2_2 rfl dX2_readMarks_82 ?_
      clear ca
      obtain ⟨b1, hb9, hf⟩ := m_calE hf
      refine z_topr hb9 ?_
      clear hb9
      refine lv_aload_n hx hb dX2_readMarks_85 rfl (lv_at hl 0 rfl) ?_
      obtain ⟨ca, hf⟩ := m_chkE hf
      refine z_get (k := 2) (j := 4) (C := RX2) (T := TX2) (N := 12) (fl := zf_2) (v := .int (zI S 4 x0)) X hw_X2_readMarks_2 hM rfl zc_2 ca (by decide) fl_X2_readMarks_2_4 rfl dX2_readMarks_86 ?_
      clear ca
      obtain ⟨ca, hf⟩ := m_chkE hf
      obtain ⟨o2, ho, hf⟩ := m_calE hf
      refine z_callVi (k := 6) (C := RX6) (T := TX6) (N := 2) (fl := zf_6) X hM rfl zc_6 ca (c_X6_at ho) gX2_readMarks_X6_at rfl ⟨rfl, rfl⟩ hd_X6_at ⟨Nat.le_of_ble_eq_true rfl, Nat.le_of_ble_eq_true rfl⟩ rfl hl.1 rfl (Nat.le_of_ble_eq_true rfl) dX2_readMarks_89 (fun H locs hM => ?_)
      clear ho
      refine lv_bipush (v := (36 : Int32)) hx hb dX2_readMarks_92 (by decide) ?_
      refine lv_icmp_ne (tgt := 113) hx hb dX2_readMarks_94 (by decide) (fun cc1 => ?_) (fun cc1 => ?_)
      · replace hf := m_ifF hf cc1
        exact w_X2_readMarks_113 (x3 := x3) X hret hf hM (lv_sub hl [2] rfl)
      · replace hf := m_ifT hf cc1
        refine lv_aload_n hx hb dX2_readMarks_97 rfl (lv_at hl 0 rfl) ?_
        refine lv_aload_n hx hb dX2_readMarks_98 rfl (lv_at hl 1 rfl) ?_
        obtain ⟨ca, hf⟩ := m_chkE hf
        obtain ⟨o3, ho, hf⟩ := m_calE hf
        refine z_callVi (k := 2) (C := RX2) (T := TX2) (N := 12) (fl := zf_2) X hM rfl zc_2 ca (c_X2_readMark ho) gX2_readMarks_X2_readMark rfl ⟨rfl, rfl⟩ hd_X2_readMark ⟨Nat.le_of_ble_eq_true rfl, Nat.le_of_ble_eq_true rfl⟩ rfl hl.1 rfl (Nat.le_of_ble_eq_true rfl) dX2_readMarks_99 (fun H locs hM => ?_)
        clear ho
        refine lv_istore_n (lv' := [(3, .int o3.1), (0, .ref x0), (1, .ref x1), (4, .int x4)]) hx hb dX2_readMarks_102 rfl hl (by decide) rfl (fun ls hl => ?_)
        refine lv_aload_n hx hb dX2_readMarks_103 rfl (lv_at hl 1 rfl) ?_
        obtain ⟨ca, hf⟩ := m_chkE hf
        obtain ⟨o4, ho, hf⟩ := m_calE hf
        refine z_callVv (k := 2) (C := RX2) (T := TX2) (N := 12) (fl := zf_2) X hM rfl zc_2 ca (c_X2_skipBlanks ho) gX2_readMarks_X2_skipBlanks rfl ⟨rfl, rfl⟩ hd_X2_skipBlanks ⟨Nat.le_of_ble_eq_true rfl, Nat.le_of_ble_eq_true rfl⟩ rfl hl.1 rfl (Nat.le_of_ble_eq_true rfl) dX2_readMarks_104 (fun H locs hM => ?_)
        clear ho
        obtain ⟨v5, ev, hf⟩ := m_bndE hf
        refine lv_iinc (v := v5) (lv' := [(4, .int v5), (3, .int o3.1), (0, .ref x0), (1, .ref x1)]) hx hb dX2_readMarks_107 hl (k := 3) rfl (by rw [ev]; rfl) (by decide) rfl (fun ls hl => ?_)
        clear ev
        refine lv_goto (tgt := 69) hx hb dX2_readMarks_110 (by decide) ?_
        exact hself69 x0 x1 o3.1 v5 _ _ _ _ hf hM (lv_sub hl [2, 3, 1, 0] rfl)
def f_X2_readMarks_69 : Nat → Nat → Nat → Int32 → Int32 → ZS → Option (Int32 × ZS)
  | 0 => fun _ _ _ _ _ => none
  | n + 1 => f_X2_readMarks_69s (f_X2_readMarks_69 n)
theorem w_X2_readMarks_69 {p : Program} {l : Launch} {e : Env} {s : State} {m : MethodId} {args : Array Value} {below : List Frame} {meth : Method} {c : Code} {Q : State → Prop} {D : va_G} {y : Nat → ClassId} {A0 : Nat → Prop} {o : Int32 × ZS} (X : CallFix p m c cX2_readMarks 5 s args wsX2_readMarks RX2) (hret : zRi p l e ({ frames := 3, cells := 0, slots := 0, locals := 67 } : Room) s m args below meth c Q cX2_readMarks D y A0 .boolean o) (n : Nat) : ∀ (x0 : Nat) (x1 : Nat) (x3 : Int32) (x4 : Int32) (S : ZS) (H : Heap) (locs : List Loc) (ls : Array Slot), f_X2_readMarks_69 n x0 x1 x3 x4 S = some o → zH D y A0 s H locs S → lv_has ls 5 [(0, .ref x0), (1, .ref x1), (3, .int x3), (4, .int x4)] → W p l e ({ frames := 3, cells := 0, slots := 0, locals := 67 } : Room) s m args below meth c H locs 0 0 Q (F0 m 69 ls []) := by
  induction n with
  | zero => intro x0 x1 x3 x4 S H locs ls hf; cases hf
  | succ n ih => intro x0 x1 x3 x4 S H locs ls hf hM hl; exact ws_X2_readMarks_69 X hret (self69 := f_X2_readMarks_69 n) ih hf hM hl
def f_X2_readMarks_64 (x0 : Nat) (x1 : Nat) (S : ZS) : Option (Int32 × ZS) :=
  f_X2_readMarks_69 mFuel x0 x1 (1 : Int32) (0 : Int32) S

set_option maxRecDepth 100000 in
set_option maxHeartbeats 4000000 in
theorem w_X2_readMarks_64 {p : Program} {l : Launch} {e : Env} {s : State} {m : MethodId} {args : Array Value} {below : List Frame} {meth : Method} {c : Code} {Q : State → Prop} {D : va_G} {y : Nat → ClassId} {A0 : Nat → Prop} {o : Int32 × ZS} (X : CallFix p m c cX2_readMarks 5 s args wsX2_readMarks RX2) (hret : zRi p l e ({ frames := 3, cells := 0, slots := 0, locals := 67 } : Room) s m args below meth c Q cX2_readMarks D y A0 .boolean o) {x0 : Nat} {x1 : Nat} {S : ZS} {H : Heap} {locs : List Loc} {ls : Array Slot} (hf : f_X2_readMarks_64 x0 x1 S = some o) (hM : zH D y A0 s H locs S) (hl : lv_has ls 5 [(0, .ref x0), (1, .ref x1)]) : W p l e ({ frames := 3, cells := 0, slots := 0, locals := 67 } : Room) s m args below meth c H locs 0 0 Q (F0 m 64 ls []) := by
  obtain ⟨hx, hb, hml, hown, hts⟩ := id X
  unfold f_X2_readMarks_64 at hf
  refine lv_iconst (v := (1 : Int32)) hx hb dX2_readMarks_64 (by decide) ?_
  refine lv_istore_n (lv' := [(3, .int (1 : Int32)), (0, .ref x0), (1, .ref x1)]) hx hb dX2_readMarks_65 rfl hl (by decide) rfl (fun ls hl => ?_)
  refine lv_iconst (v := (0 : Int32)) hx hb dX2_readMarks_66 (by decide) ?_
  refine lv_istore (lv' := [(4, .int (0 : Int32)), (3, .int (1 : Int32)), (0, .ref x0), (1, .ref x1)]) hx hb dX2_readMarks_67 hl (by decide) rfl (fun ls hl => ?_)
  exact w_X2_readMarks_69 X hret _ x0 x1 (1 : Int32) (0 : Int32) _ _ _ _ hf hM (lv_sub hl [2, 3, 1, 0] rfl)
def f_X2_readMarks_56 (x0 : Nat) (x1 : Nat) (t0 : Int32) (t1 : Int32) (t2 : Nat) (S : ZS) : Option (Int32 × ZS) :=
  m_bnd (t1 + t0) (fun v1 =>
  m_chk (t2 ∈ zL S ∧ zK S t2 = 2) (
  m_bnd (zsI S 4 t2 v1) (fun S2 =>
  m_chk (x0 ∈ zL S2 ∧ zK S2 x0 = 2) (
  m_cal (f_X2_skipBlanks x0 S2) (fun o3 =>
  f_X2_readMarks_64 x0 x1 o3.2)))))

set_option maxRecDepth 100000 in
set_option maxHeartbeats 4000000 in
theorem w_X2_readMarks_56 {p : Program} {l : Launch} {e : Env} {s : State} {m : MethodId} {args : Array Value} {below : List Frame} {meth : Method} {c : Code} {Q : State → Prop} {D : va_G} {y : Nat → ClassId} {A0 : Nat → Prop} {o : Int32 × ZS} (X : CallFix p m c cX2_readMarks 5 s args wsX2_readMarks RX2) (hret : zRi p l e ({ frames := 3, cells := 0, slots := 0, locals := 67 } : Room) s m args below meth c Q cX2_readMarks D y A0 .boolean o) {x0 : Nat} {x1 : Nat} {t0 : Int32} {t1 : Int32} {t2 : Nat} {S : ZS} {H : Heap} {locs : List Loc} {ls : Array Slot} (hf : f_X2_readMarks_56 x0 x1 t0 t1 t2 S = some o) (hM : zH D y A0 s H locs S) (hl : lv_has ls 5 [(0, .ref x0), (1, .ref x1)]) : W p l e ({ frames := 3, cells := 0, slots := 0, locals := 67 } : Room) s m args below meth c H locs 0 0 Q (F0 m 56 ls [.int t0, .int t1, .ref t2]) := by
  obtain ⟨hx, hb, hml, hown, hts⟩ := id X
  unfold f_X2_readMarks_56 at hf
  refine lv_iadd hx hb dX2_readMarks_56 ?_
  obtain ⟨v1, ev, hf⟩ := m_bndE hf
  refine m_top ev ?_
  clear ev
  obtain ⟨ca, hf⟩ := m_chkE hf
  refine z_putI (k := 2) (j := 4) (C := RX2) (T := TX2) (N := 12) (fl := zf_2) (ty := .int) X hw_X2_readMarks_2 tyX2_ok nmX2 hM rfl zc_2 ca (by decide) fl_X2_readMarks_2_4 rfl (tyX2_ok 4 (by decide)) rfl rfl zi_2_4 (Nat.le_of_ble_eq_true rfl) dX2_readMarks_57 (fun H locs hM => ?_)
  clear ca
  obtain ⟨S2, ev, hf⟩ := m_bndE hf
  replace hM := z_hS hM ev
  clear ev
  refine lv_aload_n hx hb dX2_readMarks_60 rfl (lv_at hl 0 rfl) ?_
  obtain ⟨ca, hf⟩ := m_chkE hf
  obtain ⟨o3, ho, hf⟩ := m_calE hf
  refine z_callVv (k := 2) (C := RX2) (T := TX2) (N := 12) (fl := zf_2) X hM rfl zc_2 ca (c_X2_skipBlanks ho) gX2_readMarks_X2_skipBlanks rfl ⟨rfl, rfl⟩ hd_X2_skipBlanks ⟨Nat.le_of_ble_eq_true rfl, Nat.le_of_ble_eq_true rfl⟩ rfl hl.1 rfl (Nat.le_of_ble_eq_true rfl) dX2_readMarks_61 (fun H locs hM => ?_)
  clear ho
  exact w_X2_readMarks_64 (x0 := x0) (x1 := x1) X hret hf hM (lv_sub hl [0, 1] rfl)
def f_X2_readMarks_0 (x0 : Nat) (x1 : Nat) (S : ZS) : Option (Int32 × ZS) :=
  m_chk (x0 ∈ zL S ∧ zK S x0 = 2) (
  m_cal (f_X2_skipBlanks x0 S) (fun o1 =>
  m_chk (x0 ∈ zL o1.2 ∧ zK o1.2 x0 = 2) (
  m_cal (zP o1.2 2 x0) (fun b2 =>
  m_chk (x0 ∈ zL o1.2 ∧ zK o1.2 x0 = 2) (
  m_chk (b2 ∈ zL o1.2 ∧ zK o1.2 b2 = 6) (
  m_cal (f_X6_at b2 (zI o1.2 4 x0) o1.2) (fun o3 =>
  m_chk (x0 ∈ zL o3.2 ∧ zK o3.2 x0 = 2) (
  m_cal (zP o3.2 2 x0) (fun b4 =>
  m_chk (x0 ∈ zL o3.2 ∧ zK o3.2 x0 = 2) (
  m_bnd ((zI o3.2 4 x0) + (1 : Int32)) (fun v5 =>
  m_chk (b4 ∈ zL o3.2 ∧ zK o3.2 b4 = 6) (
  m_cal (f_X6_at b4 v5 o3.2) (fun o6 =>
  m_cal (f_X2_shortMark o3.1 o6.1 o6.2) (fun o7 =>
  m_if (o7.1 ≤ 0) (
  f_X2_readMarks_64 x0 x1 o7.2
  ) (
  m_chk (x1 ∈ zL o7.2 ∧ zK o7.2 x1 = 4) (
  m_cal (f_X4_putMark x1 o7.1 o7.2) (fun o8 =>
  m_chk (x0 ∈ zL o8.2 ∧ zK o8.2 x0 = 2) (
  m_if (o7.1 ≤ (2 : Int32)) (
  f_X2_readMarks_56 x0 x1 (1 : Int32) (zI o8.2 4 x0) x0 o8.2
  ) (
  f_X2_readMarks_56 x0 x1 (2 : Int32) (zI o8.2 4 x0) x0 o8.2
  ))))
  )))))))))))))))

set_option maxRecDepth 100000 in
set_option maxHeartbeats 4000000 in
theorem w_X2_readMarks_0 {p : Program} {l : Launch} {e : Env} {s : State} {m : MethodId} {args : Array Value} {below : List Frame} {meth : Method} {c : Code} {Q : State → Prop} {D : va_G} {y : Nat → ClassId} {A0 : Nat → Prop} {o : Int32 × ZS} (X : CallFix p m c cX2_readMarks 5 s args wsX2_readMarks RX2) (hret : zRi p l e ({ frames := 3, cells := 0, slots := 0, locals := 67 } : Room) s m args below meth c Q cX2_readMarks D y A0 .boolean o) {x0 : Nat} {x1 : Nat} {S : ZS} {H : Heap} {locs : List Loc} {ls : Array Slot} (hf : f_X2_readMarks_0 x0 x1 S = some o) (hM : zH D y A0 s H locs S) (hl : lv_has ls 5 [(0, .ref x0), (1, .ref x1)]) : W p l e ({ frames := 3, cells := 0, slots := 0, locals := 67 } : Room) s m args below meth c H locs 0 0 Q (F0 m 0 ls []) := by
  obtain ⟨hx, hb, hml, hown, hts⟩ := id X
  unfold f_X2_readMarks_0 at hf
  refine lv_aload_n hx hb dX2_readMarks_0 rfl (lv_at hl 0 rfl) ?_
  obtain ⟨ca, hf⟩ := m_chkE hf
  obtain ⟨o1, ho, hf⟩ := m_calE hf
  refine z_callVv (k := 2) (C := RX2) (T := TX2) (N := 12) (fl := zf_2) X hM rfl zc_2 ca (c_X2_skipBlanks ho) gX2_readMarks_X2_skipBlanks rfl ⟨rfl, rfl⟩ hd_X2_skipBlanks ⟨Nat.le_of_ble_eq_true rfl, Nat.le_of_ble_eq_true rfl⟩ rfl hl.1 rfl (Nat.le_of_ble_eq_true rfl) dX2_readMarks_1 (fun H locs hM => ?_)
  clear ho
  refine lv_aload_n hx hb dX2_readMarks_4 rfl (lv_at hl 0 rfl) ?_
  obtain ⟨ca, hf⟩ := m_chkE hf
  refine z_get (k := 2) (j := 2) (C := RX2) (T := TX2) (N := 12) (fl := zf_2) (v := va_rf (zP o1.2 2 x0)) X hw_X2_readMarks_2 hM rfl zc_2 ca (by decide) fl_X2_readMarks_2_2 rfl dX2_readMarks_5 ?_
  clear ca
  obtain ⟨b2, hb9, hf⟩ := m_calE hf
  refine z_topr hb9 ?_
  clear hb9
  refine lv_aload_n hx hb dX2_readMarks_8 rfl (lv_at hl 0 rfl) ?_
  obtain ⟨ca, hf⟩ := m_chkE hf
  refine z_get (k := 2) (j := 4) (C := RX2) (T := TX2) (N := 12) (fl := zf_2) (v := .int (zI o1.2 4 x0)) X hw_X2_readMarks_2 hM rfl zc_2 ca (by decide) fl_X2_readMarks_2_4 rfl dX2_readMarks_9 ?_
  clear ca
  obtain ⟨ca, hf⟩ := m_chkE hf
  obtain ⟨o3, ho, hf⟩ := m_calE hf
  refine z_callVi (k := 6) (C := RX6) (T := TX6) (N := 2) (fl := zf_6) X hM rfl zc_6 ca (c_X6_at ho) gX2_readMarks_X6_at rfl ⟨rfl, rfl⟩ hd_X6_at ⟨Nat.le_of_ble_eq_true rfl, Nat.le_of_ble_eq_true rfl⟩ rfl hl.1 rfl (Nat.le_of_ble_eq_true rfl) dX2_readMarks_12 (fun H locs hM => ?_)
  clear ho
  refine lv_aload_n hx hb dX2_readMarks_15 rfl (lv_at hl 0 rfl) ?_
  obtain ⟨ca, hf⟩ := m_chkE hf
  refine z_get (k := 2) (j := 2) (C := RX2) (T := TX2) (N := 12) (fl := zf_2) (v := va_rf (zP o3.2 2 x0)) X hw_X2_readMarks_2 hM rfl zc_2 ca (by decide) fl_X2_readMarks_2_2 rfl dX2_readMarks_16 ?_
  clear ca
  obtain ⟨b4, hb9, hf⟩ := m_calE hf
  refine z_topr hb9 ?_
  clear hb9
  refine lv_aload_n hx hb dX2_readMarks_19 rfl (lv_at hl 0 rfl) ?_
  obtain ⟨ca, hf⟩ := m_chkE hf
  refine z_get (k := 2) (j := 4) (C := RX2) (T := TX2) (N := 12) (fl := zf_2) (v := .int (zI o3.2 4 x0)) X hw_X2_readMarks_2 hM rfl zc_2 ca (by decide) fl_X2_readMarks_2_4 rfl dX2_readMarks_20 ?_
  clear ca
  refine lv_iconst (v := (1 : Int32)) hx hb dX2_readMarks_23 (by decide) ?_
  refine lv_iadd hx hb dX2_readMarks_24 ?_
  obtain ⟨v5, ev, hf⟩ := m_bndE hf
  refine m_top ev ?_
  clear ev
  obtain ⟨ca, hf⟩ := m_chkE hf
  obtain ⟨o6, ho, hf⟩ := m_calE hf
  refine z_callVi (k := 6) (C := RX6) (T := TX6) (N := 2) (fl := zf_6) X hM rfl zc_6 ca (c_X6_at ho) gX2_readMarks_X6_at rfl ⟨rfl, rfl⟩ hd_X6_at ⟨Nat.le_of_ble_eq_true rfl, Nat.le_of_ble_eq_true rfl⟩ rfl hl.1 rfl (Nat.le_of_ble_eq_true rfl) dX2_readMarks_25 (fun H locs hM => ?_)
  clear ho
  obtain ⟨o7, ho, hf⟩ := m_calE hf
  refine z_callSi X hM (c_X2_shortMark ho) gX2_readMarks_X2_shortMark rfl ⟨rfl, rfl⟩ hd_X2_shortMark ⟨Nat.le_of_ble_eq_true rfl, Nat.le_of_ble_eq_true rfl⟩ rfl hl.1 rfl (Nat.le_of_ble_eq_true rfl) dX2_readMarks_28 (fun H locs hM => ?_)
  clear ho
  refine lv_istore_n (lv' := [(2, .int o7.1), (0, .ref x0), (1, .ref x1)]) hx hb dX2_readMarks_31 rfl hl (by decide) rfl (fun ls hl => ?_)
  refine lv_iload_n hx hb dX2_readMarks_32 rfl (lv_at hl 0 rfl) ?_
  refine lv_if_le (tgt := 64) hx hb dX2_readMarks_33 (by decide) (fun cc1 => ?_) (fun cc1 => ?_)
  · replace hf := m_ifT hf cc1
    exact w_X2_readMarks_64 (x0 := x0) (x1 := x1) X hret hf hM (lv_sub hl [1, 2] rfl)
  · replace hf := m_ifF hf cc1
    refine lv_aload_n hx hb dX2_readMarks_36 rfl (lv_at hl 2 rfl) ?_
    refine lv_iload_n hx hb dX2_readMarks_37 rfl (lv_at hl 0 rfl) ?_
    obtain ⟨ca, hf⟩ := m_chkE hf
    obtain ⟨o8, ho, hf⟩ := m_calE hf
    refine z_callVv (k := 4) (C := RX4) (T := TX4) (N := 7) (fl := zf_4) X hM rfl zc_4 ca (c_X4_putMark ho) gX2_readMarks_X4_putMark rfl ⟨rfl, rfl⟩ hd_X4_putMark ⟨Nat.le_of_ble_eq_true rfl, Nat.le_of_ble_eq_true rfl⟩ rfl hl.1 rfl (Nat.le_of_ble_eq_true rfl) dX2_readMarks_38 (fun H locs hM => ?_)
    clear ho
    refine lv_aload_n hx hb dX2_readMarks_41 rfl (lv_at hl 1 rfl) ?_
    refine lv_dup hx hb dX2_readMarks_42 rfl ?_
    obtain ⟨ca, hf⟩ := m_chkE hf
    refine z_get (k := 2) (j := 4) (C := RX2) (T := TX2) (N := 12) (fl := zf_2) (v := .int (zI o8.2 4 x0)) X hw_X2_readMarks_2 hM rfl zc_2 ca (by decide) fl_X2_readMarks_2_4 rfl dX2_readMarks_43 ?_
    clear ca
    refine lv_iload_n hx hb dX2_readMarks_46 rfl (lv_at hl 0 rfl) ?_
    refine lv_iconst (v := (2 : Int32)) hx hb dX2_readMarks_47 (by decide) ?_
    refine lv_icmp_le (tgt := 55) hx hb dX2_readMarks_48 (by decide) (fun cc1 => ?_) (fun cc1 => ?_)
    · replace hf := m_ifT hf cc1
      refine lv_iconst (v := (1 : Int32)) hx hb dX2_readMarks_55 (by decide) ?_
      exact w_X2_readMarks_56 (x0 := x0) (x1 := x1) (t0 := (1 : Int32)) (t1 := (zI o8.2 4 x0)) (t2 := x0) X hret hf hM (lv_sub hl [1, 2] rfl)
    · replace hf := m_ifF hf cc1
      refine lv_iconst (v := (2 : Int32)) hx hb dX2_readMarks_51 (by decide) ?_
      refine lv_goto (tgt := 56) hx hb dX2_readMarks_52 (by decide) ?_
      exact w_X2_readMarks_56 (x0 := x0) (x1 := x1) (t0 := (2 : Int32)) (t1 := (zI o8.2 4 x0)) (t2 := x0) X hret hf hM (lv_sub hl [1, 2] rfl)
def f_X2_readMarks (x0 : Nat) (x1 : Nat) (S : ZS) : Option (Int32 × ZS) := f_X2_readMarks_0 x0 x1 S
theorem c_X2_readMarks {l : Launch} {D : va_G} {y : Nat → ClassId} {x0 : Nat} {x1 : Nat} {S : ZS} {o : Int32 × ZS} (hf : f_X2_readMarks x0 x1 S = some o) : zMi l yX2_readMarks wsX2_readMarks ({ frames := 3, cells := 0, slots := 0, locals := 67 } : Room) [.ref x0, .ref x1] D y S o :=
  z_entryI (own := RX2) (cc := cX2_readMarks) (maxL := 5) (by decide) rfl rfl (Nat.le_of_ble_eq_true rfl) (fun p e s m args below meth c A0 Q H locs ls X hret hM hl => w_X2_readMarks_0 X hret hf hM (lv_sub hl [0, 1] rfl))
theorem hd_X2_readMarks : yX2_readMarks.cls = RX2 ∧ yX2_readMarks.cls ≠ "java/lang/invoke/MethodHandle" ∧ yX2_readMarks.cls ≠ "java/lang/invoke/VarHandle" ∧ (parseMethodDescriptor yX2_readMarks.desc).map (fun d => d.parameters.length) = some 1 := by decide +kernel
theorem fl_X9_init_9_0 : Cond.fieldLink RX9 12 "MoveTexts$SignWriter" "rules" "LMoveTexts$Rules;" ∈ wsX9_init := by decide +kernel
theorem hw_X9_init_7 : ∀ w ∈ wsX70, w ∈ wsX9_init := by decide +kernel
theorem hw_X9_init_9 : ∀ w ∈ wsX90, w ∈ wsX9_init := by decide +kernel
theorem ii_X9_init_11 : (RX9, 11, yX7_init, "MoveTexts") ∈ zNW ∧ Cond.initialized yX7_init.cls ∈ wsX9_init ∧ Cond.instanceMethod yX7_init ∈ wsX9_init := by decide +kernel
theorem nw_X9_init_9 : Cond.classLink RX9 9 RX7 ∈ wsX9_init ∧ Cond.instantiable RX7 2 ∈ wsX9_init ∧ Cond.initialized RX7 ∈ wsX9_init := by decide +kernel
theorem ob_X9_init : (Cond.methodLink RX9 3 objectInit ∈ wsX9_init ∧ Cond.instanceMethod objectInit ∈ wsX9_init) ∧ Cond.code objectInit ⟨#[0xb1]⟩ 1 none ∈ wsX9_init := by decide +kernel
def g_X9_init_0 (Pw : Int32 → ZS → Prop) (x0 : Nat) (S : ZS) (C T : Nat) : Prop :=
  m_newP (C) (T) 2 (zL S) (fun q1 C3 T4 =>
  m_bndP (zsNewO S q1 7) (fun S2 =>
  m_gal (C3) (T4) (fun mc ms Pw => g_X7_init q1 S2 mc ms Pw) (fun r6 S7 C8 T9 =>
  m_chkP (x0 ∈ zL S7 ∧ zK S7 x0 = 9) (
  m_bndP (zsP S7 0 x0 (some q1)) (fun S10 =>
  Pw 0 S10)))))

set_option maxRecDepth 100000 in
set_option maxHeartbeats 4000000 in
theorem w_X9_init_0 {p : Program} {l : Launch} {e : Env} {s : State} {m : MethodId} {args : Array Value} {below : List Frame} {meth : Method} {c : Code} {Q : State → Prop} {D : va_G} {y : Nat → ClassId} {A0 : Nat → Prop} {kc kt : Nat} {Pw : Int32 → ZS → Prop} (X : CallFix p m c cX9_init 1 s args wsX9_init RX9) (hin : meth.name = "<init>") (hret : zQv p l e ({ frames := 3, cells := kc, slots := kt, locals := 64 } : Room) s m args below meth c Q cX9_init D y A0 Pw) {x0 : Nat} {S : ZS} {C T : Nat} {H : Heap} {locs : List Loc} {ls : Array Slot} (hf : g_X9_init_0 Pw x0 S C T) (hCT : C ≤ kc ∧ T ≤ kt) (hM : zH D y A0 s H locs S) (hl : lv_has ls 1 [(0, .ref x0)]) : W p l e ({ frames := 3, cells := kc, slots := kt, locals := 64 } : Room) s m args below meth c H locs (kc - C) (kt - T) Q (F0 m 0 ls []) := by
  obtain ⟨hx, hb, hml, hown, hts⟩ := id X
  unfold g_X9_init_0 at hf
  refine lv_aload_n hx hb dX9_init_0 rfl (lv_at hl 0 rfl) ?_
  refine z_obj X (by rw [hml]; exact hl.1.symm) ob_X9_init.1 ob_X9_init.2 (Nat.le_of_ble_eq_true rfl) (Nat.le_of_ble_eq_true rfl) dX9_init_1 ?_
  refine lv_aload_n hx hb dX9_init_4 rfl (lv_at hl 0 rfl) ?_
  obtain ⟨hcm, ho⟩ := hf
  refine z_newO (k := 7) (C := RX7) (T := TX7) (N := 2) (fl := zf_7) X hw_X9_init_7 tyX7_ok hM rfl zc_7 nw_X9_init_9 zd_7 ⟨by show kc - (C) + 1 ≤ kc; omega, by show kt - (T) + 2 ≤ kt; omega⟩ dX9_init_5 (fun q1 H hq hM => ?_)
  replace hf := ho q1 hq
  refine z_eqCS (c2 := kc - (C - 1)) (t2 := kt - (T - 2)) (by omega) (by omega) ?_
  replace hCT : C - 1 ≤ kc ∧ T - 2 ≤ kt := by omega
  generalize C - 1 = C3 at hf hCT ⊢
  generalize T - 2 = T4 at hf hCT ⊢
  obtain ⟨S2, ev, hf⟩ := m_bndPE hf
  replace hM := z_hS hM ev
  clear ev ho hcm hq
  refine lv_dup hx hb dX9_init_8 rfl ?_
  obtain ⟨mc, ms, hcm, ho⟩ := m_galE hf
  refine z_wcallINv X hM (c_X7_init ho) gX9_init_X7_init_n11 ii_X9_init_11.1 ii_X9_init_11.2.1 ii_X9_init_11.2.2 rfl rfl ⟨rfl, rfl⟩ ⟨by show kc - (C3) + mc ≤ kc; omega, by show kt - (T4) + ms ≤ kt; omega⟩ hd_X7_init.2 ⟨Nat.le_of_ble_eq_true rfl, Nat.le_of_ble_eq_true rfl⟩ rfl hl.1 rfl (Nat.le_of_ble_eq_true rfl) dX9_init_9 (fun S7 H locs hf hM => ?_)
  refine z_eqCS (c2 := kc - (C3 - mc)) (t2 := kt - (T4 - ms)) (by omega) (by omega) ?_
  replace hCT : C3 - mc ≤ kc ∧ T4 - ms ≤ kt := by omega
  generalize C3 - mc = C8 at hf hCT ⊢
  generalize T4 - ms = T9 at hf hCT ⊢
  clear ho hcm
  obtain ⟨ca, hf⟩ := m_chkPE hf
  refine z_putPF (k := 9) (j := 0) (C := RX9) (T := TX9) (N := 1) (fl := zf_9) (ty := tyX9 0) X hw_X9_init_9 tyX9_ok nmX9 hM rfl zc_9 ca (by decide) fl_X9_init_9_0 rfl hin rfl (tyX9_ok 0 (by decide)) rfl rfl zp_9_0 (Nat.le_of_ble_eq_true rfl) dX9_init_12 (fun H locs hM => ?_)
  clear ca
  obtain ⟨S10, ev, hf⟩ := m_bndPE hf
  replace hM := z_hS hM ev
  clear ev
  exact hret _ _ _ H locs _ ls hf hM dX9_init_15
def g_X9_init (x0 : Nat) (S : ZS) (mc ms : Nat) (Pw : Int32 → ZS → Prop) : Prop := g_X9_init_0 Pw x0 S mc ms
theorem c_X9_init {l : Launch} {D : va_G} {y : Nat → ClassId} {x0 : Nat} {S : ZS} {kc kt : Nat} {Pw : Int32 → ZS → Prop} (hf : g_X9_init x0 S kc kt Pw) : zWv l yX9_init wsX9_init ({ frames := 3, cells := kc, slots := kt, locals := 64 } : Room) [.ref x0] D y S kc kt Pw :=
  z_wentC (own := RX9) (cc := cX9_init) (maxL := 1) (by decide) rfl rfl (Nat.le_of_ble_eq_true rfl) ⟨rfl, rfl⟩ rfl (fun p e s m args below meth c A0 Q H locs ls X hin hret hM hl => w_X9_init_0 X hin hret hf ⟨Nat.le_refl _, Nat.le_refl _⟩ hM (lv_sub hl [0] rfl))
theorem hd_X9_init : yX9_init.cls = RX9 ∧ yX9_init.cls ≠ "java/lang/invoke/MethodHandle" ∧ yX9_init.cls ≠ "java/lang/invoke/VarHandle" ∧ (parseMethodDescriptor yX9_init.desc).map (fun d => d.parameters.length) = some 0 := by decide +kernel
def g_X3_putQuoted_34 (Pw : Int32 → ZS → Prop) (self2 : Nat → Nat → Int32 → ZS → Nat → Nat → Prop) (x0 : Nat) (x1 : Nat) (x2 : Int32) (x3 : Int32) (S : ZS) (C T : Nat) : Prop :=
  m_chkP (x1 ∈ zL S ∧ zK S x1 = 6) (
  m_gal (C) (T) (fun mc ms Pw => g_X6_put x1 x3 S mc ms Pw) (fun r2 S3 C4 T5 =>
  m_bndP (x2 + (1 : Int32)) (fun v6 =>
  self2 x0 x1 v6 S3 (C4) (T5))))

set_option maxRecDepth 100000 in
set_option maxHeartbeats 4000000 in
theorem w_X3_putQuoted_34 {p : Program} {l : Launch} {e : Env} {s : State} {m : MethodId} {args : Array Value} {below : List Frame} {meth : Method} {c : Code} {Q : State → Prop} {D : va_G} {y : Nat → ClassId} {A0 : Nat → Prop} {kc kt : Nat} {Pw : Int32 → ZS → Prop} (X : CallFix p m c cX3_putQuoted 4 s args wsX3_putQuoted RX3) (hret : zQv p l e ({ frames := 2, cells := kc, slots := kt, locals := 82 } : Room) s m args below meth c Q cX3_putQuoted D y A0 Pw) {self2 : Nat → Nat → Int32 → ZS → Nat → Nat → Prop} (hself2 : ∀ (x0 : Nat) (x1 : Nat) (x2 : Int32) (S : ZS) (C T : Nat) (H : Heap) (locs : List Loc) (ls : Array Slot), self2 x0 x1 x2 S C T → C ≤ kc ∧ T ≤ kt → zH D y A0 s H locs S → lv_has ls 4 [(0, .ref x0), (1, .ref x1), (2, .int x2)] → W p l e ({ frames := 2, cells := kc, slots := kt, locals := 82 } : Room) s m args below meth c H locs (kc - C) (kt - T) Q (F0 m 2 ls [])) {x0 : Nat} {x1 : Nat} {x2 : Int32} {x3 : Int32} {S : ZS} {C T : Nat} {H : Heap} {locs : List Loc} {ls : Array Slot} (hf : g_X3_putQuoted_34 Pw self2 x0 x1 x2 x3 S C T) (hCT : C ≤ kc ∧ T ≤ kt) (hM : zH D y A0 s H locs S) (hl : lv_has ls 4 [(0, .ref x0), (1, .ref x1), (2, .int x2), (3, .int x3)]) : W p l e ({ frames := 2, cells := kc, slots := kt, locals := 82 } : Room) s m args below meth c H locs (kc - C) (kt - T) Q (F0 m 34 ls []) := by
  obtain ⟨hx, hb, hml, hown, hts⟩ := id X
  unfold g_X3_putQuoted_34 at hf
  refine lv_aload_n hx hb dX3_putQuoted_34 rfl (lv_at hl 1 rfl) ?_
  refine lv_iload_n hx hb dX3_putQuoted_35 rfl (lv_at hl 3 rfl) ?_
  obtain ⟨ca, hf⟩ := m_chkPE hf
  obtain ⟨mc, ms, hcm, ho⟩ := m_galE hf
  refine z_wcallVv (k := 6) (C := RX6) (T := TX6) (N := 2) (fl := zf_6) X hM rfl zc_6 ca (c_X6_put ho) gX3_putQuoted_X6_put rfl ⟨rfl, rfl⟩ ⟨by show kc - (C) + mc ≤ kc; omega, by show kt - (T) + ms ≤ kt; omega⟩ hd_X6_put ⟨Nat.le_of_ble_eq_true rfl, Nat.le_of_ble_eq_true rfl⟩ rfl hl.1 rfl (Nat.le_of_ble_eq_true rfl) dX3_putQuoted_36 (fun S3 H locs hf hM => ?_)
  refine z_eqCS (c2 := kc - (C - mc)) (t2 := kt - (T - ms)) (by omega) (by omega) ?_
  replace hCT : C - mc ≤ kc ∧ T - ms ≤ kt := by omega
  generalize C - mc = C4 at hf hCT ⊢
  generalize T - ms = T5 at hf hCT ⊢
  clear ho hcm
  obtain ⟨v6, ev, hf⟩ := m_bndPE hf
  refine lv_iinc (v := v6) (lv' := [(2, .int v6), (0, .ref x0), (1, .ref x1), (3, .int x3)]) hx hb dX3_putQuoted_39 hl (k := 2) rfl (by rw [ev]; rfl) (by decide) rfl (fun ls hl => ?_)
  clear ev
  refine lv_goto (tgt := 2) hx hb dX3_putQuoted_42 (by decide) ?_
  exact hself2 x0 x1 v6 _ _ _ _ _ _ hf hCT hM (lv_sub hl [1, 2, 0] rfl)
def g_X3_putQuoted_28 (Pw : Int32 → ZS → Prop) (self2 : Nat → Nat → Int32 → ZS → Nat → Nat → Prop) (x0 : Nat) (x1 : Nat) (x2 : Int32) (x3 : Int32) (S : ZS) (C T : Nat) : Prop :=
  m_chkP (x1 ∈ zL S ∧ zK S x1 = 6) (
  m_gal (C) (T) (fun mc ms Pw => g_X6_put x1 (92 : Int32) S mc ms Pw) (fun r2 S3 C4 T5 =>
  g_X3_putQuoted_34 Pw self2 x0 x1 x2 x3 S3 (C4) (T5)))

set_option maxRecDepth 100000 in
set_option maxHeartbeats 4000000 in
theorem w_X3_putQuoted_28 {p : Program} {l : Launch} {e : Env} {s : State} {m : MethodId} {args : Array Value} {below : List Frame} {meth : Method} {c : Code} {Q : State → Prop} {D : va_G} {y : Nat → ClassId} {A0 : Nat → Prop} {kc kt : Nat} {Pw : Int32 → ZS → Prop} (X : CallFix p m c cX3_putQuoted 4 s args wsX3_putQuoted RX3) (hret : zQv p l e ({ frames := 2, cells := kc, slots := kt, locals := 82 } : Room) s m args below meth c Q cX3_putQuoted D y A0 Pw) {self2 : Nat → Nat → Int32 → ZS → Nat → Nat → Prop} (hself2 : ∀ (x0 : Nat) (x1 : Nat) (x2 : Int32) (S : ZS) (C T : Nat) (H : Heap) (locs : List Loc) (ls : Array Slot), self2 x0 x1 x2 S C T → C ≤ kc ∧ T ≤ kt → zH D y A0 s H locs S → lv_has ls 4 [(0, .ref x0), (1, .ref x1), (2, .int x2)] → W p l e ({ frames := 2, cells := kc, slots := kt, locals := 82 } : Room) s m args below meth c H locs (kc - C) (kt - T) Q (F0 m 2 ls [])) {x0 : Nat} {x1 : Nat} {x2 : Int32} {x3 : Int32} {S : ZS} {C T : Nat} {H : Heap} {locs : List Loc} {ls : Array Slot} (hf : g_X3_putQuoted_28 Pw self2 x0 x1 x2 x3 S C T) (hCT : C ≤ kc ∧ T ≤ kt) (hM : zH D y A0 s H locs S) (hl : lv_has ls 4 [(0, .ref x0), (1, .ref x1), (2, .int x2), (3, .int x3)]) : W p l e ({ frames := 2, cells := kc, slots := kt, locals := 82 } : Room) s m args below meth c H locs (kc - C) (kt - T) Q (F0 m 28 ls []) := by
  obtain ⟨hx, hb, hml, hown, hts⟩ := id X
  unfold g_X3_putQuoted_28 at hf
  refine lv_aload_n hx hb dX3_putQuoted_28 rfl (lv_at hl 1 rfl) ?_
  refine lv_bipush (v := (92 : Int32)) hx hb dX3_putQuoted_29 (by decide) ?_
  obtain ⟨ca, hf⟩ := m_chkPE hf
  obtain ⟨mc, ms, hcm, ho⟩ := m_galE hf
  refine z_wcallVv (k := 6) (C := RX6) (T := TX6) (N := 2) (fl := zf_6) X hM rfl zc_6 ca (c_X6_put ho) gX3_putQuoted_X6_put rfl ⟨rfl, rfl⟩ ⟨by show kc - (C) + mc ≤ kc; omega, by show kt - (T) + ms ≤ kt; omega⟩ hd_X6_put ⟨Nat.le_of_ble_eq_true rfl, Nat.le_of_ble_eq_true rfl⟩ rfl hl.1 rfl (Nat.le_of_ble_eq_true rfl) dX3_putQuoted_31 (fun S3 H locs hf hM => ?_)
  refine z_eqCS (c2 := kc - (C - mc)) (t2 := kt - (T - ms)) (by omega) (by omega) ?_
  replace hCT : C - mc ≤ kc ∧ T - ms ≤ kt := by omega
  generalize C - mc = C4 at hf hCT ⊢
  generalize T - ms = T5 at hf hCT ⊢
  clear ho hcm
  exact w_X3_putQuoted_34 (x0 := x0) (x1 := x1) (x2 := x2) (x3 := x3) X hret hself2 hf hCT hM (lv_sub hl [0, 1, 2, 3] rfl)
def g_X3_putQuoted_2s (Pw : Int32 → ZS → Prop) (self2 : Nat → Nat → Int32 → ZS → Nat → Nat → Prop) (x0 : Nat) (x1 : Nat) (x2 : Int32) (S : ZS) (C T : Nat) : Prop :=
  m_chkP (x0 ∈ zL S ∧ zK S x0 = 6) (
  m_calP (f_X6_size x0 S) (fun o1 =>
  m_ifP (o1.1 ≤ x2) (
  Pw 0 o1.2
  ) (
  m_chkP (x0 ∈ zL o1.2 ∧ zK o1.2 x0 = 6) (
  m_calP (f_X6_at x0 x2 o1.2) (fun o2 =>
  m_ifP (o2.1 = (34 : Int32)) (
  g_X3_putQuoted_28 Pw self2 x0 x1 x2 o2.1 o2.2 (C) (T)
  ) (
  m_ifP (o2.1 = (92 : Int32)) (
  g_X3_putQuoted_28 Pw self2 x0 x1 x2 o2.1 o2.2 (C) (T)
  ) (
  g_X3_putQuoted_34 Pw self2 x0 x1 x2 o2.1 o2.2 (C) (T)
  )
  )))
  )))

set_option maxRecDepth 100000 in
set_option maxHeartbeats 4000000 in
theorem ws_X3_putQuoted_2 {p : Program} {l : Launch} {e : Env} {s : State} {m : MethodId} {args : Array Value} {below : List Frame} {meth : Method} {c : Code} {Q : State → Prop} {D : va_G} {y : Nat → ClassId} {A0 : Nat → Prop} {kc kt : Nat} {Pw : Int32 → ZS → Prop} (X : CallFix p m c cX3_putQuoted 4 s args wsX3_putQuoted RX3) (hret : zQv p l e ({ frames := 2, cells := kc, slots := kt, locals := 82 } : Room) s m args below meth c Q cX3_putQuoted D y A0 Pw) {self2 : Nat → Nat → Int32 → ZS → Nat → Nat → Prop} (hself2 : ∀ (x0 : Nat) (x1 : Nat) (x2 : Int32) (S : ZS) (C T : Nat) (H : Heap) (locs : List Loc) (ls : Array Slot), self2 x0 x1 x2 S C T → C ≤ kc ∧ T ≤ kt → zH D y A0 s H locs S → lv_has ls 4 [(0, .ref x0), (1, .ref x1), (2, .int x2)] → W p l e ({ frames := 2, cells := kc, slots := kt, locals := 82 } : Room) s m args below meth c H locs (kc - C) (kt - T) Q (F0 m 2 ls [])) {x0 : Nat} {x1 : Nat} {x2 : Int32} {S : ZS} {C T : Nat} {H : Heap} {locs : List Loc} {ls : Array Slot} (hf : g_X3_putQuoted_2s Pw self2 x0 x1 x2 S C T) (hCT : C ≤ kc ∧ T ≤ kt) (hM : zH D y A0 s H locs S) (hl : lv_has ls 4 [(0, .ref x0), (1, .ref x1), (2, .int x2)]) : W p l e ({ frames := 2, cells := kc, slots := kt, locals := 82 } : Room) s m args below meth c H locs (kc - C) (kt - T) Q (F0 m 2 ls []) := by
  obtain ⟨hx, hb, hml, hown, hts⟩ := id X
  unfold g_X3_putQuoted_2s at hf
  refine lv_iload_n hx hb dX3_putQuoted_2 rfl (lv_at hl 2 rfl) ?_
  refine lv_aload_n hx hb dX3_putQuoted_3 rfl (lv_at hl 0 rfl) ?_
  obtain ⟨ca, hf⟩ := m_chkPE hf
  obtain ⟨o1, ho, hf⟩ := m_calPE hf
  refine z_gcallVi (k := 6) (C := RX6) (T := TX6) (N := 2) (fl := zf_6) X hM rfl zc_6 ca (c_X6_size ho) gX3_putQuoted_X6_size rfl ⟨rfl, rfl⟩ hd_X6_size ⟨Nat.le_of_ble_eq_true rfl, Nat.le_of_ble_eq_true rfl⟩ rfl hl.1 rfl ⟨Nat.sub_le _ _, Nat.sub_le _ _⟩ (Nat.le_of_ble_eq_true rfl) dX3_putQuoted_4 (fun H locs hM => ?_)
  clear ho
  refine lv_icmp_ge (tgt := 45) hx hb dX3_putQuoted_7 (by decide) (fun cc1 => ?_) (fun cc1 => ?_)
  · replace hf := m_ifPT hf cc1
    exact hret _ _ _ H locs _ ls hf hM dX3_putQuoted_45
  · replace hf := m_ifPF hf cc1
    refine lv_aload_n hx hb dX3_putQuoted_10 rfl (lv_at hl 0 rfl) ?_
    refine lv_iload_n hx hb dX3_putQuoted_11 rfl (lv_at hl 2 rfl) ?_
    obtain ⟨ca, hf⟩ := m_chkPE hf
    obtain ⟨o2, ho, hf⟩ := m_calPE hf
    refine z_gcallVi (k := 6) (C := RX6) (T := TX6) (N := 2) (fl := zf_6) X hM rfl zc_6 ca (c_X6_at ho) gX3_putQuoted_X6_at rfl ⟨rfl, rfl⟩ hd_X6_at ⟨Nat.le_of_ble_eq_true rfl, Nat.le_of_ble_eq_true rfl⟩ rfl hl.1 rfl ⟨Nat.sub_le _ _, Nat.sub_le _ _⟩ (Nat.le_of_ble_eq_true rfl) dX3_putQuoted_12 (fun H locs hM => ?_)
    clear ho
    refine lv_istore_n (lv' := [(3, .int o2.1), (0, .ref x0), (1, .ref x1), (2, .int x2)]) hx hb dX3_putQuoted_15 rfl hl (by decide) rfl (fun ls hl => ?_)
    refine lv_iload_n hx hb dX3_putQuoted_16 rfl (lv_at hl 0 rfl) ?_
    refine lv_bipush (v := (34 : Int32)) hx hb dX3_putQuoted_17 (by decide) ?_
    refine lv_icmp_eq (tgt := 28) hx hb dX3_putQuoted_19 (by decide) (fun cc1 => ?_) (fun cc1 => ?_)
    · replace hf := m_ifPT hf cc1
      exact w_X3_putQuoted_28 (x0 := x0) (x1 := x1) (x2 := x2) (x3 := o2.1) X hret hself2 hf hCT hM (lv_sub hl [1, 2, 3, 0] rfl)
    · replace hf := m_ifPF hf cc1
      refine lv_iload_n hx hb dX3_putQuoted_22 rfl (lv_at hl 0 rfl) ?_
      refine lv_bipush (v := (92 : Int32)) hx hb dX3_putQuoted_23 (by decide) ?_
      refine lv_icmp_ne (tgt := 34) hx hb dX3_putQuoted_25 (by decide) (fun cc1 => ?_) (fun cc1 => ?_)
      · replace hf := m_ifPF hf cc1
        exact w_X3_putQuoted_34 (x0 := x0) (x1 := x1) (x2 := x2) (x3 := o2.1) X hret hself2 hf hCT hM (lv_sub hl [1, 2, 3, 0] rfl)
      · replace hf := m_ifPT hf cc1
        exact w_X3_putQuoted_28 (x0 := x0) (x1 := x1) (x2 := x2) (x3 := o2.1) X hret hself2 hf hCT hM (lv_sub hl [1, 2, 3, 0] rfl)
def g_X3_putQuoted_2 (Pw : Int32 → ZS → Prop) : Nat → Nat → Nat → Int32 → ZS → Nat → Nat → Prop
  | 0 => fun _ _ _ _ _ _ => False
  | n + 1 => g_X3_putQuoted_2s Pw (g_X3_putQuoted_2 Pw n)
theorem w_X3_putQuoted_2 {p : Program} {l : Launch} {e : Env} {s : State} {m : MethodId} {args : Array Value} {below : List Frame} {meth : Method} {c : Code} {Q : State → Prop} {D : va_G} {y : Nat → ClassId} {A0 : Nat → Prop} {kc kt : Nat} {Pw : Int32 → ZS → Prop} (X : CallFix p m c cX3_putQuoted 4 s args wsX3_putQuoted RX3) (hret : zQv p l e ({ frames := 2, cells := kc, slots := kt, locals := 82 } : Room) s m args below meth c Q cX3_putQuoted D y A0 Pw) (n : Nat) : ∀ (x0 : Nat) (x1 : Nat) (x2 : Int32) (S : ZS) (C T : Nat) (H : Heap) (locs : List Loc) (ls : Array Slot), g_X3_putQuoted_2 Pw n x0 x1 x2 S C T → C ≤ kc ∧ T ≤ kt → zH D y A0 s H locs S → lv_has ls 4 [(0, .ref x0), (1, .ref x1), (2, .int x2)] → W p l e ({ frames := 2, cells := kc, slots := kt, locals := 82 } : Room) s m args below meth c H locs (kc - C) (kt - T) Q (F0 m 2 ls []) := by
  induction n with
  | zero => intro x0 x1 x2 S C T H locs ls hf; exact absurd hf id
  | succ n ih => intro x0 x1 x2 S C T H locs ls hf hCT hM hl; exact ws_X3_putQuoted_2 X hret (self2 := g_X3_putQuoted_2 Pw n) ih hf hCT hM hl
def g_X3_putQuoted_0 (Pw : Int32 → ZS → Prop) (x0 : Nat) (x1 : Nat) (S : ZS) (C T : Nat) : Prop :=
  g_X3_putQuoted_2 Pw mFuel x0 x1 (0 : Int32) S (C) (T)

set_option maxRecDepth 100000 in
set_option maxHeartbeats 4000000 in
theorem w_X3_putQuoted_0 {p : Program} {l : Launch} {e : Env} {s : State} {m : MethodId} {args : Array Value} {below : List Frame} {meth : Method} {c : Code} {Q : State → Prop} {D : va_G} {y : Nat → ClassId} {A0 : Nat → Prop} {kc kt : Nat} {Pw : Int32 → ZS → Prop} (X : CallFix p m c cX3_putQuoted 4 s args wsX3_putQuoted RX3) (hret : zQv p l e ({ frames := 2, cells := kc, slots := kt, locals := 82 } : Room) s m args below meth c Q cX3_putQuoted D y A0 Pw) {x0 : Nat} {x1 : Nat} {S : ZS} {C T : Nat} {H : Heap} {locs : List Loc} {ls : Array Slot} (hf : g_X3_putQuoted_0 Pw x0 x1 S C T) (hCT : C ≤ kc ∧ T ≤ kt) (hM : zH D y A0 s H locs S) (hl : lv_has ls 4 [(0, .ref x0), (1, .ref x1)]) : W p l e ({ frames := 2, cells := kc, slots := kt, locals := 82 } : Room) s m args below meth c H locs (kc - C) (kt - T) Q (F0 m 0 ls []) := by
  obtain ⟨hx, hb, hml, hown, hts⟩ := id X
  unfold g_X3_putQuoted_0 at hf
  refine lv_iconst (v := (0 : Int32)) hx hb dX3_putQuoted_0 (by decide) ?_
  refine lv_istore_n (lv' := [(2, .int (0 : Int32)), (0, .ref x0), (1, .ref x1)]) hx hb dX3_putQuoted_1 rfl hl (by decide) rfl (fun ls hl => ?_)
  exact w_X3_putQuoted_2 X hret _ x0 x1 (0 : Int32) _ _ _ _ _ _ hf hCT hM (lv_sub hl [1, 2, 0] rfl)
def g_X3_putQuoted (x0 : Nat) (x1 : Nat) (S : ZS) (mc ms : Nat) (Pw : Int32 → ZS → Prop) : Prop := g_X3_putQuoted_0 Pw x0 x1 S mc ms
theorem c_X3_putQuoted {l : Launch} {D : va_G} {y : Nat → ClassId} {x0 : Nat} {x1 : Nat} {S : ZS} {kc kt : Nat} {Pw : Int32 → ZS → Prop} (hf : g_X3_putQuoted x0 x1 S kc kt Pw) : zWv l yX3_putQuoted wsX3_putQuoted ({ frames := 2, cells := kc, slots := kt, locals := 82 } : Room) [.ref x0, .ref x1] D y S kc kt Pw :=
  z_wentV (own := RX3) (cc := cX3_putQuoted) (maxL := 4) (by decide) rfl rfl (Nat.le_of_ble_eq_true rfl) ⟨rfl, rfl⟩ (fun p e s m args below meth c A0 Q H locs ls X hret hM hl => w_X3_putQuoted_0 X hret hf ⟨Nat.le_refl _, Nat.le_refl _⟩ hM (lv_sub hl [0, 1] rfl))
theorem hd_X3_putQuoted : yX3_putQuoted.cls ≠ "java/lang/invoke/MethodHandle" ∧ yX3_putQuoted.cls ≠ "java/lang/invoke/VarHandle" ∧ (parseMethodDescriptor yX3_putQuoted.desc).map (fun d => d.parameters.length) = some 2 := by decide +kernel
def g_X3_putGap_33 (Pw : Int32 → ZS → Prop) (S : ZS) (C T : Nat) : Prop :=
  Pw 0 S

set_option maxRecDepth 100000 in
set_option maxHeartbeats 4000000 in
theorem w_X3_putGap_33 {p : Program} {l : Launch} {e : Env} {s : State} {m : MethodId} {args : Array Value} {below : List Frame} {meth : Method} {c : Code} {Q : State → Prop} {D : va_G} {y : Nat → ClassId} {A0 : Nat → Prop} {kc kt : Nat} {Pw : Int32 → ZS → Prop} (X : CallFix p m c cX3_putGap 2 s args wsX3_putGap RX3) (hret : zQv p l e ({ frames := 2, cells := kc, slots := kt, locals := 82 } : Room) s m args below meth c Q cX3_putGap D y A0 Pw) {S : ZS} {C T : Nat} {H : Heap} {locs : List Loc} {ls : Array Slot} (hf : g_X3_putGap_33 Pw  S C T) (hCT : C ≤ kc ∧ T ≤ kt) (hM : zH D y A0 s H locs S) (hl : lv_has ls 2 []) : W p l e ({ frames := 2, cells := kc, slots := kt, locals := 82 } : Room) s m args below meth c H locs (kc - C) (kt - T) Q (F0 m 33 ls []) := by
  obtain ⟨hx, hb, hml, hown, hts⟩ := id X
  unfold g_X3_putGap_33 at hf
  exact hret _ _ _ H locs _ ls hf hM dX3_putGap_33
def g_X3_putGap_0 (Pw : Int32 → ZS → Prop) (x0 : Nat) (S : ZS) (C T : Nat) : Prop :=
  m_chkP (x0 ∈ zL S ∧ zK S x0 = 6) (
  m_calP (f_X6_size x0 S) (fun o1 =>
  m_bndP (o1.1 - (1 : Int32)) (fun v2 =>
  m_chkP (x0 ∈ zL o1.2 ∧ zK o1.2 x0 = 6) (
  m_calP (f_X6_at x0 v2 o1.2) (fun o3 =>
  m_ifP (o3.1 = 0) (
  g_X3_putGap_33 Pw  o3.2 (C) (T)
  ) (
  m_ifP (o3.1 = (10 : Int32)) (
  g_X3_putGap_33 Pw  o3.2 (C) (T)
  ) (
  m_ifP (o3.1 = (40 : Int32)) (
  g_X3_putGap_33 Pw  o3.2 (C) (T)
  ) (
  m_chkP (x0 ∈ zL o3.2 ∧ zK o3.2 x0 = 6) (
  m_gal (C) (T) (fun mc ms Pw => g_X6_put x0 (32 : Int32) o3.2 mc ms Pw) (fun r5 S6 C7 T8 =>
  g_X3_putGap_33 Pw  S6 (C7) (T8)))
  )
  )
  ))))))

set_option maxRecDepth 100000 in
set_option maxHeartbeats 4000000 in
theorem w_X3_putGap_0 {p : Program} {l : Launch} {e : Env} {s : State} {m : MethodId} {args : Array Value} {below : List Frame} {meth : Method} {c : Code} {Q : State → Prop} {D : va_G} {y : Nat → ClassId} {A0 : Nat → Prop} {kc kt : Nat} {Pw : Int32 → ZS → Prop} (X : CallFix p m c cX3_putGap 2 s args wsX3_putGap RX3) (hret : zQv p l e ({ frames := 2, cells := kc, slots := kt, locals := 82 } : Room) s m args below meth c Q cX3_putGap D y A0 Pw) {x0 : Nat} {S : ZS} {C T : Nat} {H : Heap} {locs : List Loc} {ls : Array Slot} (hf : g_X3_putGap_0 Pw x0 S C T) (hCT : C ≤ kc ∧ T ≤ kt) (hM : zH D y A0 s H locs S) (hl : lv_has ls 2 [(0, .ref x0)]) : W p l e ({ frames := 2, cells := kc, slots := kt, locals := 82 } : Room) s m args below meth c H locs (kc - C) (kt - T) Q (F0 m 0 ls []) := by
  obtain ⟨hx, hb, hml, hown, hts⟩ := id X
  unfold g_X3_putGap_0 at hf
  refine lv_aload_n hx hb dX3_putGap_0 rfl (lv_at hl 0 rfl) ?_
  refine lv_aload_n hx hb dX3_putGap_1 rfl (lv_at hl 0 rfl) ?_
  obtain ⟨ca, hf⟩ := m_chkPE hf
  obtain ⟨o1, ho, hf⟩ := m_calPE hf
  refine z_gcallVi (k := 6) (C := RX6) (T := TX6) (N := 2) (fl := zf_6) X hM rfl zc_6 ca (c_X6_size ho) gX3_putGap_X6_size rfl ⟨rfl, rfl⟩ hd_X6_size ⟨Nat.le_of_ble_eq_true rfl, Nat.le_of_ble_eq_true rfl⟩ rfl hl.1 rfl ⟨Nat.sub_le _ _, Nat.sub_le _ _⟩ (Nat.le_of_ble_eq_true rfl) dX3_putGap_2 (fun H locs hM => ?_)
  clear ho
  refine lv_iconst (v := (1 : Int32)) hx hb dX3_putGap_5 (by decide) ?_
  refine lv_isub hx hb dX3_putGap_6 ?_
  obtain ⟨v2, ev, hf⟩ := m_bndPE hf
  refine m_top ev ?_
  clear ev
  obtain ⟨ca, hf⟩ := m_chkPE hf
  obtain ⟨o3, ho, hf⟩ := m_calPE hf
  refine z_gcallVi (k := 6) (C := RX6) (T := TX6) (N := 2) (fl := zf_6) X hM rfl zc_6 ca (c_X6_at ho) gX3_putGap_X6_at rfl ⟨rfl, rfl⟩ hd_X6_at ⟨Nat.le_of_ble_eq_true rfl, Nat.le_of_ble_eq_true rfl⟩ rfl hl.1 rfl ⟨Nat.sub_le _ _, Nat.sub_le _ _⟩ (Nat.le_of_ble_eq_true rfl) dX3_putGap_7 (fun H locs hM => ?_)
  clear ho
  refine lv_istore_n (lv' := [(1, .int o3.1), (0, .ref x0)]) hx hb dX3_putGap_10 rfl hl (by decide) rfl (fun ls hl => ?_)
  refine lv_iload_n hx hb dX3_putGap_11 rfl (lv_at hl 0 rfl) ?_
  refine lv_if_eq (tgt := 33) hx hb dX3_putGap_12 (by decide) (fun cc1 => ?_) (fun cc1 => ?_)
  · replace hf := m_ifPT hf cc1
    exact w_X3_putGap_33 X hret hf hCT hM (lv_sub hl [] rfl)
  · replace hf := m_ifPF hf cc1
    refine lv_iload_n hx hb dX3_putGap_15 rfl (lv_at hl 0 rfl) ?_
    refine lv_bipush (v := (10 : Int32)) hx hb dX3_putGap_16 (by decide) ?_
    refine lv_icmp_eq (tgt := 33) hx hb dX3_putGap_18 (by decide) (fun cc1 => ?_) (fun cc1 => ?_)
    · replace hf := m_ifPT hf cc1
      exact w_X3_putGap_33 X hret hf hCT hM (lv_sub hl [] rfl)
    · replace hf := m_ifPF hf cc1
      refine lv_iload_n hx hb dX3_putGap_21 rfl (lv_at hl 0 rfl) ?_
      refine lv_bipush (v := (40 : Int32)) hx hb dX3_putGap_22 (by decide) ?_
      refine lv_icmp_eq (tgt := 33) hx hb dX3_putGap_24 (by decide) (fun cc1 => ?_) (fun cc1 => ?_)
      · replace hf := m_ifPT hf cc1
        exact w_X3_putGap_33 X hret hf hCT hM (lv_sub hl [] rfl)
      · replace hf := m_ifPF hf cc1
        refine lv_aload_n hx hb dX3_putGap_27 rfl (lv_at hl 1 rfl) ?_
        refine lv_bipush (v := (32 : Int32)) hx hb dX3_putGap_28 (by decide) ?_
        obtain ⟨ca, hf⟩ := m_chkPE hf
        obtain ⟨mc, ms, hcm, ho⟩ := m_galE hf
        refine z_wcallVv (k := 6) (C := RX6) (T := TX6) (N := 2) (fl := zf_6) X hM rfl zc_6 ca (c_X6_put ho) gX3_putGap_X6_put rfl ⟨rfl, rfl⟩ ⟨by show kc - (C) + mc ≤ kc; omega, by show kt - (T) + ms ≤ kt; omega⟩ hd_X6_put ⟨Nat.le_of_ble_eq_true rfl, Nat.le_of_ble_eq_true rfl⟩ rfl hl.1 rfl (Nat.le_of_ble_eq_true rfl) dX3_putGap_30 (fun S6 H locs hf hM => ?_)
        refine z_eqCS (c2 := kc - (C - mc)) (t2 := kt - (T - ms)) (by omega) (by omega) ?_
        replace hCT : C - mc ≤ kc ∧ T - ms ≤ kt := by omega
        generalize C - mc = C7 at hf hCT ⊢
        generalize T - ms = T8 at hf hCT ⊢
        clear ho hcm
        exact w_X3_putGap_33 X hret hf hCT hM (lv_sub hl [] rfl)
def g_X3_putGap (x0 : Nat) (S : ZS) (mc ms : Nat) (Pw : Int32 → ZS → Prop) : Prop := g_X3_putGap_0 Pw x0 S mc ms
theorem c_X3_putGap {l : Launch} {D : va_G} {y : Nat → ClassId} {x0 : Nat} {S : ZS} {kc kt : Nat} {Pw : Int32 → ZS → Prop} (hf : g_X3_putGap x0 S kc kt Pw) : zWv l yX3_putGap wsX3_putGap ({ frames := 2, cells := kc, slots := kt, locals := 82 } : Room) [.ref x0] D y S kc kt Pw :=
  z_wentV (own := RX3) (cc := cX3_putGap) (maxL := 2) (by decide) rfl rfl (Nat.le_of_ble_eq_true rfl) ⟨rfl, rfl⟩ (fun p e s m args below meth c A0 Q H locs ls X hret hM hl => w_X3_putGap_0 X hret hf ⟨Nat.le_refl _, Nat.le_refl _⟩ hM (lv_sub hl [0] rfl))
theorem hd_X3_putGap : yX3_putGap.cls ≠ "java/lang/invoke/MethodHandle" ∧ yX3_putGap.cls ≠ "java/lang/invoke/VarHandle" ∧ (parseMethodDescriptor yX3_putGap.desc).map (fun d => d.parameters.length) = some 1 := by decide +kernel
def g_X6_putText_2s (Pw : Int32 → ZS → Prop) (self2 : Nat → Nat → Int32 → ZS → Nat → Nat → Prop) (x0 : Nat) (x1 : Nat) (x2 : Int32) (S : ZS) (C T : Nat) : Prop :=
  m_chkP (x1 < zSn) (
  m_calP (f_J0_length_8abf5 x1 S) (fun o1 =>
  m_ifP (o1.1 ≤ x2) (
  Pw 0 o1.2
  ) (
  m_chkP (x1 < zSn) (
  m_calP (f_J0_charAt_5068e x1 x2 o1.2) (fun o2 =>
  m_chkP (x0 ∈ zL o2.2 ∧ zK o2.2 x0 = 6) (
  m_gal (C) (T) (fun mc ms Pw => g_X6_put x0 o2.1 o2.2 mc ms Pw) (fun r4 S5 C6 T7 =>
  m_bndP (x2 + (1 : Int32)) (fun v8 =>
  self2 x0 x1 v8 S5 (C6) (T7))))))
  )))

set_option maxRecDepth 100000 in
set_option maxHeartbeats 4000000 in
theorem ws_X6_putText_2 {p : Program} {l : Launch} {e : Env} {s : State} {m : MethodId} {args : Array Value} {below : List Frame} {meth : Method} {c : Code} {Q : State → Prop} {D : va_G} {y : Nat → ClassId} {A0 : Nat → Prop} {kc kt : Nat} {Pw : Int32 → ZS → Prop} (X : CallFix p m c cX6_putText 3 s args wsX6_putText RX6) (hret : zQv p l e ({ frames := 4, cells := kc, slots := kt, locals := 85 } : Room) s m args below meth c Q cX6_putText D y A0 Pw) {self2 : Nat → Nat → Int32 → ZS → Nat → Nat → Prop} (hself2 : ∀ (x0 : Nat) (x1 : Nat) (x2 : Int32) (S : ZS) (C T : Nat) (H : Heap) (locs : List Loc) (ls : Array Slot), self2 x0 x1 x2 S C T → C ≤ kc ∧ T ≤ kt → zH D y A0 s H locs S → lv_has ls 3 [(0, .ref x0), (1, .ref (y (100 + x1))), (2, .int x2)] → W p l e ({ frames := 4, cells := kc, slots := kt, locals := 85 } : Room) s m args below meth c H locs (kc - C) (kt - T) Q (F0 m 2 ls [])) {x0 : Nat} {x1 : Nat} {x2 : Int32} {S : ZS} {C T : Nat} {H : Heap} {locs : List Loc} {ls : Array Slot} (hf : g_X6_putText_2s Pw self2 x0 x1 x2 S C T) (hCT : C ≤ kc ∧ T ≤ kt) (hM : zH D y A0 s H locs S) (hl : lv_has ls 3 [(0, .ref x0), (1, .ref (y (100 + x1))), (2, .int x2)]) : W p l e ({ frames := 4, cells := kc, slots := kt, locals := 85 } : Room) s m args below meth c H locs (kc - C) (kt - T) Q (F0 m 2 ls []) := by
  obtain ⟨hx, hb, hml, hown, hts⟩ := id X
  unfold g_X6_putText_2s at hf
  refine lv_iload_n hx hb dX6_putText_2 rfl (lv_at hl 2 rfl) ?_
  refine lv_aload_n hx hb dX6_putText_3 rfl (lv_at hl 1 rfl) ?_
  obtain ⟨ca, hf⟩ := m_chkPE hf
  obtain ⟨o1, ho, hf⟩ := m_calPE hf
  refine z_gcallTi X hM ca (c_J0_length_8abf5 ho) gX6_putText_J0_length_8abf5 rfl ⟨rfl, rfl⟩ hd_J0_length_8abf5 ⟨Nat.le_of_ble_eq_true rfl, Nat.le_of_ble_eq_true rfl⟩ rfl hl.1 rfl ⟨Nat.sub_le _ _, Nat.sub_le _ _⟩ (Nat.le_of_ble_eq_true rfl) dX6_putText_4 (fun H locs hM => ?_)
  clear ho
  refine lv_icmp_ge (tgt := 25) hx hb dX6_putText_7 (by decide) (fun cc1 => ?_) (fun cc1 => ?_)
  · replace hf := m_ifPT hf cc1
    exact hret _ _ _ H locs _ ls hf hM dX6_putText_25
  · replace hf := m_ifPF hf cc1
    refine lv_aload_n hx hb dX6_putText_10 rfl (lv_at hl 0 rfl) ?_
    refine lv_aload_n hx hb dX6_putText_11 rfl (lv_at hl 1 rfl) ?_
    refine lv_iload_n hx hb dX6_putText_12 rfl (lv_at hl 2 rfl) ?_
    obtain ⟨ca, hf⟩ := m_chkPE hf
    obtain ⟨o2, ho, hf⟩ := m_calPE hf
    refine z_gcallTi X hM ca (c_J0_charAt_5068e ho) gX6_putText_J0_charAt_5068e rfl ⟨rfl, rfl⟩ hd_J0_charAt_5068e ⟨Nat.le_of_ble_eq_true rfl, Nat.le_of_ble_eq_true rfl⟩ rfl hl.1 rfl ⟨Nat.sub_le _ _, Nat.sub_le _ _⟩ (Nat.le_of_ble_eq_true rfl) dX6_putText_13 (fun H locs hM => ?_)
    clear ho
    obtain ⟨ca, hf⟩ := m_chkPE hf
    obtain ⟨mc, ms, hcm, ho⟩ := m_galE hf
    refine z_wcallVv (k := 6) (C := RX6) (T := TX6) (N := 2) (fl := zf_6) X hM rfl zc_6 ca (c_X6_put ho) gX6_putText_X6_put rfl ⟨rfl, rfl⟩ ⟨by show kc - (C) + mc ≤ kc; omega, by show kt - (T) + ms ≤ kt; omega⟩ hd_X6_put ⟨Nat.le_of_ble_eq_true rfl, Nat.le_of_ble_eq_true rfl⟩ rfl hl.1 rfl (Nat.le_of_ble_eq_true rfl) dX6_putText_16 (fun S5 H locs hf hM => ?_)
    refine z_eqCS (c2 := kc - (C - mc)) (t2 := kt - (T - ms)) (by omega) (by omega) ?_
    replace hCT : C - mc ≤ kc ∧ T - ms ≤ kt := by omega
    generalize C - mc = C6 at hf hCT ⊢
    generalize T - ms = T7 at hf hCT ⊢
    clear ho hcm
    obtain ⟨v8, ev, hf⟩ := m_bndPE hf
    refine lv_iinc (v := v8) (lv' := [(2, .int v8), (0, .ref x0), (1, .ref (y (100 + x1)))]) hx hb dX6_putText_19 hl (k := 2) rfl (by rw [ev]; rfl) (by decide) rfl (fun ls hl => ?_)
    clear ev
    refine lv_goto (tgt := 2) hx hb dX6_putText_22 (by decide) ?_
    exact hself2 x0 x1 v8 _ _ _ _ _ _ hf hCT hM (lv_sub hl [1, 2, 0] rfl)
def g_X6_putText_2 (Pw : Int32 → ZS → Prop) : Nat → Nat → Nat → Int32 → ZS → Nat → Nat → Prop
  | 0 => fun _ _ _ _ _ _ => False
  | n + 1 => g_X6_putText_2s Pw (g_X6_putText_2 Pw n)
theorem w_X6_putText_2 {p : Program} {l : Launch} {e : Env} {s : State} {m : MethodId} {args : Array Value} {below : List Frame} {meth : Method} {c : Code} {Q : State → Prop} {D : va_G} {y : Nat → ClassId} {A0 : Nat → Prop} {kc kt : Nat} {Pw : Int32 → ZS → Prop} (X : CallFix p m c cX6_putText 3 s args wsX6_putText RX6) (hret : zQv p l e ({ frames := 4, cells := kc, slots := kt, locals := 85 } : Room) s m args below meth c Q cX6_putText D y A0 Pw) (n : Nat) : ∀ (x0 : Nat) (x1 : Nat) (x2 : Int32) (S : ZS) (C T : Nat) (H : Heap) (locs : List Loc) (ls : Array Slot), g_X6_putText_2 Pw n x0 x1 x2 S C T → C ≤ kc ∧ T ≤ kt → zH D y A0 s H locs S → lv_has ls 3 [(0, .ref x0), (1, .ref (y (100 + x1))), (2, .int x2)] → W p l e ({ frames := 4, cells := kc, slots := kt, locals := 85 } : Room) s m args below meth c H locs (kc - C) (kt - T) Q (F0 m 2 ls []) := by
  induction n with
  | zero => intro x0 x1 x2 S C T H locs ls hf; exact absurd hf id
  | succ n ih => intro x0 x1 x2 S C T H locs ls hf hCT hM hl; exact ws_X6_putText_2 X hret (self2 := g_X6_putText_2 Pw n) ih hf hCT hM hl
def g_X6_putText_0 (Pw : Int32 → ZS → Prop) (x0 : Nat) (x1 : Nat) (S : ZS) (C T : Nat) : Prop :=
  g_X6_putText_2 Pw mFuel x0 x1 (0 : Int32) S (C) (T)

set_option maxRecDepth 100000 in
set_option maxHeartbeats 4000000 in
theorem w_X6_putText_0 {p : Program} {l : Launch} {e : Env} {s : State} {m : MethodId} {args : Array Value} {below : List Frame} {meth : Method} {c : Code} {Q : State → Prop} {D : va_G} {y : Nat → ClassId} {A0 : Nat → Prop} {kc kt : Nat} {Pw : Int32 → ZS → Prop} (X : CallFix p m c cX6_putText 3 s args wsX6_putText RX6) (hret : zQv p l e ({ frames := 4, cells := kc, slots := kt, locals := 85 } : Room) s m args below meth c Q cX6_putText D y A0 Pw) {x0 : Nat} {x1 : Nat} {S : ZS} {C T : Nat} {H : Heap} {locs : List Loc} {ls : Array Slot} (hf : g_X6_putText_0 Pw x0 x1 S C T) (hCT : C ≤ kc ∧ T ≤ kt) (hM : zH D y A0 s H locs S) (hl : lv_has ls 3 [(0, .ref x0), (1, .ref (y (100 + x1)))]) : W p l e ({ frames := 4, cells := kc, slots := kt, locals := 85 } : Room) s m args below meth c H locs (kc - C) (kt - T) Q (F0 m 0 ls []) := by
  obtain ⟨hx, hb, hml, hown, hts⟩ := id X
  unfold g_X6_putText_0 at hf
  refine lv_iconst (v := (0 : Int32)) hx hb dX6_putText_0 (by decide) ?_
  refine lv_istore_n (lv' := [(2, .int (0 : Int32)), (0, .ref x0), (1, .ref (y (100 + x1)))]) hx hb dX6_putText_1 rfl hl (by decide) rfl (fun ls hl => ?_)
  exact w_X6_putText_2 X hret _ x0 x1 (0 : Int32) _ _ _ _ _ _ hf hCT hM (lv_sub hl [1, 2, 0] rfl)
def g_X6_putText (x0 : Nat) (x1 : Nat) (S : ZS) (mc ms : Nat) (Pw : Int32 → ZS → Prop) : Prop := g_X6_putText_0 Pw x0 x1 S mc ms
theorem c_X6_putText {l : Launch} {D : va_G} {y : Nat → ClassId} {x0 : Nat} {x1 : Nat} {S : ZS} {kc kt : Nat} {Pw : Int32 → ZS → Prop} (hf : g_X6_putText x0 x1 S kc kt Pw) : zWv l yX6_putText wsX6_putText ({ frames := 4, cells := kc, slots := kt, locals := 85 } : Room) [.ref x0, .ref (y (100 + x1))] D y S kc kt Pw :=
  z_wentV (own := RX6) (cc := cX6_putText) (maxL := 3) (by decide) rfl rfl (Nat.le_of_ble_eq_true rfl) ⟨rfl, rfl⟩ (fun p e s m args below meth c A0 Q H locs ls X hret hM hl => w_X6_putText_0 X hret hf ⟨Nat.le_refl _, Nat.le_refl _⟩ hM (lv_sub hl [0, 1] rfl))
theorem hd_X6_putText : yX6_putText.cls = RX6 ∧ yX6_putText.cls ≠ "java/lang/invoke/MethodHandle" ∧ yX6_putText.cls ≠ "java/lang/invoke/VarHandle" ∧ (parseMethodDescriptor yX6_putText.desc).map (fun d => d.parameters.length) = some 1 := by decide +kernel
theorem fl_X3_putEnd_1_6 : Cond.fieldLink RX3 92 "MoveTexts$Game" "result" "I" ∈ wsX3_putEnd := by decide +kernel
theorem hw_X3_putEnd_1 : ∀ w ∈ wsX10, w ∈ wsX3_putEnd := by decide +kernel
theorem nn_X3_putEnd_95 : ((RX3, 95, yX11_resultSign, "MoveTexts") ∈ zNW ∧ Cond.initialized yX11_resultSign.cls ∈ wsX3_putEnd) ∧ Cond.static yX11_resultSign ∈ wsX3_putEnd := by decide +kernel
def g_X3_putEnd_0 (Pw : Int32 → ZS → Prop) (x1 : Nat) (x2 : Nat) (S : ZS) (C T : Nat) : Prop :=
  m_gal (C) (T) (fun mc ms Pw => g_X3_putGap x2 S mc ms Pw) (fun r2 S3 C4 T5 =>
  m_chkP (x1 ∈ zL S3 ∧ zK S3 x1 = 1) (
  m_calP (f_X11_resultSign (zI S3 6 x1) S3) (fun o6 =>
  m_chkP (x2 ∈ zL o6.2 ∧ zK o6.2 x2 = 6) (
  m_gal (C4) (T5) (fun mc ms Pw => g_X6_putText x2 o6.1 o6.2 mc ms Pw) (fun r8 S9 C10 T11 =>
  Pw 0 S9)))))

set_option maxRecDepth 100000 in
set_option maxHeartbeats 4000000 in
theorem w_X3_putEnd_0 {p : Program} {l : Launch} {e : Env} {s : State} {m : MethodId} {args : Array Value} {below : List Frame} {meth : Method} {c : Code} {Q : State → Prop} {D : va_G} {y : Nat → ClassId} {A0 : Nat → Prop} {kc kt : Nat} {Pw : Int32 → ZS → Prop} (X : CallFix p m c cX3_putEnd 3 s args wsX3_putEnd RX3) (hret : zQv p l e ({ frames := 5, cells := kc, slots := kt, locals := 107 } : Room) s m args below meth c Q cX3_putEnd D y A0 Pw) {x1 : Nat} {x2 : Nat} {S : ZS} {C T : Nat} {H : Heap} {locs : List Loc} {ls : Array Slot} (hf : g_X3_putEnd_0 Pw x1 x2 S C T) (hCT : C ≤ kc ∧ T ≤ kt) (hM : zH D y A0 s H locs S) (hl : lv_has ls 3 [(1, .ref x1), (2, .ref x2)]) : W p l e ({ frames := 5, cells := kc, slots := kt, locals := 107 } : Room) s m args below meth c H locs (kc - C) (kt - T) Q (F0 m 0 ls []) := by
  obtain ⟨hx, hb, hml, hown, hts⟩ := id X
  unfold g_X3_putEnd_0 at hf
  refine lv_aload_n hx hb dX3_putEnd_0 rfl (lv_at hl 1 rfl) ?_
  obtain ⟨mc, ms, hcm, ho⟩ := m_galE hf
  refine z_wcallSv X hM (c_X3_putGap ho) gX3_putEnd_X3_putGap rfl ⟨rfl, rfl⟩ ⟨by show kc - (C) + mc ≤ kc; omega, by show kt - (T) + ms ≤ kt; omega⟩ hd_X3_putGap ⟨Nat.le_of_ble_eq_true rfl, Nat.le_of_ble_eq_true rfl⟩ rfl hl.1 rfl (Nat.le_of_ble_eq_true rfl) dX3_putEnd_1 (fun S3 H locs hf hM => ?_)
  refine z_eqCS (c2 := kc - (C - mc)) (t2 := kt - (T - ms)) (by omega) (by omega) ?_
  replace hCT : C - mc ≤ kc ∧ T - ms ≤ kt := by omega
  generalize C - mc = C4 at hf hCT ⊢
  generalize T - ms = T5 at hf hCT ⊢
  clear ho hcm
  refine lv_aload_n hx hb dX3_putEnd_4 rfl (lv_at hl 1 rfl) ?_
  refine lv_aload_n hx hb dX3_putEnd_5 rfl (lv_at hl 0 rfl) ?_
  obtain ⟨ca, hf⟩ := m_chkPE hf
  refine z_get (k := 1) (j := 6) (C := RX1) (T := TX1) (N := 8) (fl := zf_1) (v := .int (zI S3 6 x1)) X hw_X3_putEnd_1 hM rfl zc_1 ca (by decide) fl_X3_putEnd_1_6 rfl dX3_putEnd_6 ?_
  clear ca
  obtain ⟨o6, ho, hf⟩ := m_calPE hf
  refine z_gcallSNr X hM (c_X11_resultSign ho) gX3_putEnd_X11_resultSign_n95 nn_X3_putEnd_95.1.1 nn_X3_putEnd_95.1.2 nn_X3_putEnd_95.2 rfl ⟨rfl, rfl⟩ hd_X11_resultSign ⟨Nat.le_of_ble_eq_true rfl, Nat.le_of_ble_eq_true rfl⟩ rfl hl.1 rfl ⟨Nat.sub_le _ _, Nat.sub_le _ _⟩ (Nat.le_of_ble_eq_true rfl) dX3_putEnd_9 (fun H locs hM => ?_)
  clear ho
  obtain ⟨ca, hf⟩ := m_chkPE hf
  obtain ⟨mc, ms, hcm, ho⟩ := m_galE hf
  refine z_wcallVv (k := 6) (C := RX6) (T := TX6) (N := 2) (fl := zf_6) X hM rfl zc_6 ca (c_X6_putText ho) gX3_putEnd_X6_putText rfl ⟨rfl, rfl⟩ ⟨by show kc - (C4) + mc ≤ kc; omega, by show kt - (T5) + ms ≤ kt; omega⟩ hd_X6_putText ⟨Nat.le_of_ble_eq_true rfl, Nat.le_of_ble_eq_true rfl⟩ rfl hl.1 rfl (Nat.le_of_ble_eq_true rfl) dX3_putEnd_12 (fun S9 H locs hf hM => ?_)
  refine z_eqCS (c2 := kc - (C4 - mc)) (t2 := kt - (T5 - ms)) (by omega) (by omega) ?_
  replace hCT : C4 - mc ≤ kc ∧ T5 - ms ≤ kt := by omega
  generalize C4 - mc = C10 at hf hCT ⊢
  generalize T5 - ms = T11 at hf hCT ⊢
  clear ho hcm
  exact hret _ _ _ H locs _ ls hf hM dX3_putEnd_15
def g_X3_putEnd (x0 : Nat) (x1 : Nat) (x2 : Nat) (S : ZS) (mc ms : Nat) (Pw : Int32 → ZS → Prop) : Prop := g_X3_putEnd_0 Pw x1 x2 S mc ms
theorem c_X3_putEnd {l : Launch} {D : va_G} {y : Nat → ClassId} {x0 : Nat} {x1 : Nat} {x2 : Nat} {S : ZS} {kc kt : Nat} {Pw : Int32 → ZS → Prop} (hf : g_X3_putEnd x0 x1 x2 S kc kt Pw) : zWv l yX3_putEnd wsX3_putEnd ({ frames := 5, cells := kc, slots := kt, locals := 107 } : Room) [.ref x0, .ref x1, .ref x2] D y S kc kt Pw :=
  z_wentV (own := RX3) (cc := cX3_putEnd) (maxL := 3) (by decide) rfl rfl (Nat.le_of_ble_eq_true rfl) ⟨rfl, rfl⟩ (fun p e s m args below meth c A0 Q H locs ls X hret hM hl => w_X3_putEnd_0 X hret hf ⟨Nat.le_refl _, Nat.le_refl _⟩ hM (lv_sub hl [1, 2] rfl))
theorem hd_X3_putEnd : yX3_putEnd.cls = RX3 ∧ yX3_putEnd.cls ≠ "java/lang/invoke/MethodHandle" ∧ yX3_putEnd.cls ≠ "java/lang/invoke/VarHandle" ∧ (parseMethodDescriptor yX3_putEnd.desc).map (fun d => d.parameters.length) = some 2 := by decide +kernel
theorem fl_X6_putAll_6_1 : Cond.fieldLink RX6 16 "MoveTexts$Row" "length" "I" ∈ wsX6_putAll := by decide +kernel
theorem hw_X6_putAll_6 : ∀ w ∈ wsX60, w ∈ wsX6_putAll := by decide +kernel
def g_X6_putAll_2s (Pw : Int32 → ZS → Prop) (self2 : Nat → Nat → Int32 → ZS → Nat → Nat → Prop) (x0 : Nat) (x1 : Nat) (x2 : Int32) (S : ZS) (C T : Nat) : Prop :=
  m_chkP (x1 ∈ zL S ∧ zK S x1 = 6) (
  m_ifP ((zI S 1 x1) ≤ x2) (
  Pw 0 S
  ) (
  m_chkP (x1 ∈ zL S ∧ zK S x1 = 6) (
  m_calP (f_X6_at x1 x2 S) (fun o1 =>
  m_chkP (x0 ∈ zL o1.2 ∧ zK o1.2 x0 = 6) (
  m_gal (C) (T) (fun mc ms Pw => g_X6_put x0 o1.1 o1.2 mc ms Pw) (fun r3 S4 C5 T6 =>
  m_bndP (x2 + (1 : Int32)) (fun v7 =>
  self2 x0 x1 v7 S4 (C5) (T6))))))
  ))

set_option maxRecDepth 100000 in
set_option maxHeartbeats 4000000 in
theorem ws_X6_putAll_2 {p : Program} {l : Launch} {e : Env} {s : State} {m : MethodId} {args : Array Value} {below : List Frame} {meth : Method} {c : Code} {Q : State → Prop} {D : va_G} {y : Nat → ClassId} {A0 : Nat → Prop} {kc kt : Nat} {Pw : Int32 → ZS → Prop} (X : CallFix p m c cX6_putAll 3 s args wsX6_putAll RX6) (hret : zQv p l e ({ frames := 2, cells := kc, slots := kt, locals := 82 } : Room) s m args below meth c Q cX6_putAll D y A0 Pw) {self2 : Nat → Nat → Int32 → ZS → Nat → Nat → Prop} (hself2 : ∀ (x0 : Nat) (x1 : Nat) (x2 : Int32) (S : ZS) (C T : Nat) (H : Heap) (locs : List Loc) (ls : Array Slot), self2 x0 x1 x2 S C T → C ≤ kc ∧ T ≤ kt → zH D y A0 s H locs S → lv_has ls 3 [(0, .ref x0), (1, .ref x1), (2, .int x2)] → W p l e ({ frames := 2, cells := kc, slots := kt, locals := 82 } : Room) s m args below meth c H locs (kc - C) (kt - T) Q (F0 m 2 ls [])) {x0 : Nat} {x1 : Nat} {x2 : Int32} {S : ZS} {C T : Nat} {H : Heap} {locs : List Loc} {ls : Array Slot} (hf : g_X6_putAll_2s Pw self2 x0 x1 x2 S C T) (hCT : C ≤ kc ∧ T ≤ kt) (hM : zH D y A0 s H locs S) (hl : lv_has ls 3 [(0, .ref x0), (1, .ref x1), (2, .int x2)]) : W p l e ({ frames := 2, cells := kc, slots := kt, locals := 82 } : Room) s m args below meth c H locs (kc - C) (kt - T) Q (F0 m 2 ls []) := by
  obtain ⟨hx, hb, hml, hown, hts⟩ := id X
  unfold g_X6_putAll_2s at hf
  refine lv_iload_n hx hb dX6_putAll_2 rfl (lv_at hl 2 rfl) ?_
  refine lv_aload_n hx hb dX6_putAll_3 rfl (lv_at hl 1 rfl) ?_
  obtain ⟨ca, hf⟩ := m_chkPE hf
  refine z_get (k := 6) (j := 1) (C := RX6) (T := TX6) (N := 2) (fl := zf_6) (v := .int (zI S 1 x1)) X hw_X6_putAll_6 hM rfl zc_6 ca (by decide) fl_X6_putAll_6_1 rfl dX6_putAll_4 ?_
  clear ca
  refine lv_icmp_ge (tgt := 25) hx hb dX6_putAll_7 (by decide) (fun cc1 => ?_) (fun cc1 => ?_)
  · replace hf := m_ifPT hf cc1
    exact hret _ _ _ H locs _ ls hf hM dX6_putAll_25
  · replace hf := m_ifPF hf cc1
    refine lv_aload_n hx hb dX6_putAll_10 rfl (lv_at hl 0 rfl) ?_
    refine lv_aload_n hx hb dX6_putAll_11 rfl (lv_at hl 1 rfl) ?_
    refine lv_iload_n hx hb dX6_putAll_12 rfl (lv_at hl 2 rfl) ?_
    obtain ⟨ca, hf⟩ := m_chkPE hf
    obtain ⟨o1, ho, hf⟩ := m_calPE hf
    refine z_gcallVi (k := 6) (C := RX6) (T := TX6) (N := 2) (fl := zf_6) X hM rfl zc_6 ca (c_X6_at ho) gX6_putAll_X6_at rfl ⟨rfl, rfl⟩ hd_X6_at ⟨Nat.le_of_ble_eq_true rfl, Nat.le_of_ble_eq_true rfl⟩ rfl hl.1 rfl ⟨Nat.sub_le _ _, Nat.sub_le _ _⟩ (Nat.le_of_ble_eq_true rfl) dX6_putAll_13 (fun H locs hM => ?_)
    clear ho
    obtain ⟨ca, hf⟩ := m_chkPE hf
    obtain ⟨mc, ms, hcm, ho⟩ := m_galE hf
    refine z_wcallVv (k := 6) (C := RX6) (T := TX6) (N := 2) (fl := zf_6) X hM rfl zc_6 ca (c_X6_put ho) gX6_putAll_X6_put rfl ⟨rfl, rfl⟩ ⟨by show kc - (C) + mc ≤ kc; omega, by show kt - (T) + ms ≤ kt; omega⟩ hd_X6_put ⟨Nat.le_of_ble_eq_true rfl, Nat.le_of_ble_eq_true rfl⟩ rfl hl.1 rfl (Nat.le_of_ble_eq_true rfl) dX6_putAll_16 (fun S4 H locs hf hM => ?_)
    refine z_eqCS (c2 := kc - (C - mc)) (t2 := kt - (T - ms)) (by omega) (by omega) ?_
    replace hCT : C - mc ≤ kc ∧ T - ms ≤ kt := by omega
    generalize C - mc = C5 at hf hCT ⊢
    generalize T - ms = T6 at hf hCT ⊢
    clear ho hcm
    obtain ⟨v7, ev, hf⟩ := m_bndPE hf
    refine lv_iinc (v := v7) (lv' := [(2, .int v7), (0, .ref x0), (1, .ref x1)]) hx hb dX6_putAll_19 hl (k := 2) rfl (by rw [ev]; rfl) (by decide) rfl (fun ls hl => ?_)
    clear ev
    refine lv_goto (tgt := 2) hx hb dX6_putAll_22 (by decide) ?_
    exact hself2 x0 x1 v7 _ _ _ _ _ _ hf hCT hM (lv_sub hl [1, 2, 0] rfl)
def g_X6_putAll_2 (Pw : Int32 → ZS → Prop) : Nat → Nat → Nat → Int32 → ZS → Nat → Nat → Prop
  | 0 => fun _ _ _ _ _ _ => False
  | n + 1 => g_X6_putAll_2s Pw (g_X6_putAll_2 Pw n)
theorem w_X6_putAll_2 {p : Program} {l : Launch} {e : Env} {s : State} {m : MethodId} {args : Array Value} {below : List Frame} {meth : Method} {c : Code} {Q : State → Prop} {D : va_G} {y : Nat → ClassId} {A0 : Nat → Prop} {kc kt : Nat} {Pw : Int32 → ZS → Prop} (X : CallFix p m c cX6_putAll 3 s args wsX6_putAll RX6) (hret : zQv p l e ({ frames := 2, cells := kc, slots := kt, locals := 82 } : Room) s m args below meth c Q cX6_putAll D y A0 Pw) (n : Nat) : ∀ (x0 : Nat) (x1 : Nat) (x2 : Int32) (S : ZS) (C T : Nat) (H : Heap) (locs : List Loc) (ls : Array Slot), g_X6_putAll_2 Pw n x0 x1 x2 S C T → C ≤ kc ∧ T ≤ kt → zH D y A0 s H locs S → lv_has ls 3 [(0, .ref x0), (1, .ref x1), (2, .int x2)] → W p l e ({ frames := 2, cells := kc, slots := kt, locals := 82 } : Room) s m args below meth c H locs (kc - C) (kt - T) Q (F0 m 2 ls []) := by
  induction n with
  | zero => intro x0 x1 x2 S C T H locs ls hf; exact absurd hf id
  | succ n ih => intro x0 x1 x2 S C T H locs ls hf hCT hM hl; exact ws_X6_putAll_2 X hret (self2 := g_X6_putAll_2 Pw n) ih hf hCT hM hl
def g_X6_putAll_0 (Pw : Int32 → ZS → Prop) (x0 : Nat) (x1 : Nat) (S : ZS) (C T : Nat) : Prop :=
  g_X6_putAll_2 Pw mFuel x0 x1 (0 : Int32) S (C) (T)

set_option maxRecDepth 100000 in
set_option maxHeartbeats 4000000 in
theorem w_X6_putAll_0 {p : Program} {l : Launch} {e : Env} {s : State} {m : MethodId} {args : Array Value} {below : List Frame} {meth : Method} {c : Code} {Q : State → Prop} {D : va_G} {y : Nat → ClassId} {A0 : Nat → Prop} {kc kt : Nat} {Pw : Int32 → ZS → Prop} (X : CallFix p m c cX6_putAll 3 s args wsX6_putAll RX6) (hret : zQv p l e ({ frames := 2, cells := kc, slots := kt, locals := 82 } : Room) s m args below meth c Q cX6_putAll D y A0 Pw) {x0 : Nat} {x1 : Nat} {S : ZS} {C T : Nat} {H : Heap} {locs : List Loc} {ls : Array Slot} (hf : g_X6_putAll_0 Pw x0 x1 S C T) (hCT : C ≤ kc ∧ T ≤ kt) (hM : zH D y A0 s H locs S) (hl : lv_has ls 3 [(0, .ref x0), (1, .ref x1)]) : W p l e ({ frames := 2, cells := kc, slots := kt, locals := 82 } : Room) s m args below meth c H locs (kc - C) (kt - T) Q (F0 m 0 ls []) := by
  obtain ⟨hx, hb, hml, hown, hts⟩ := id X
  unfold g_X6_putAll_0 at hf
  refine lv_iconst (v := (0 : Int32)) hx hb dX6_putAll_0 (by decide) ?_
  refine lv_istore_n (lv' := [(2, .int (0 : Int32)), (0, .ref x0), (1, .ref x1)]) hx hb dX6_putAll_1 rfl hl (by decide) rfl (fun ls hl => ?_)
  exact w_X6_putAll_2 X hret _ x0 x1 (0 : Int32) _ _ _ _ _ _ hf hCT hM (lv_sub hl [1, 2, 0] rfl)
def g_X6_putAll (x0 : Nat) (x1 : Nat) (S : ZS) (mc ms : Nat) (Pw : Int32 → ZS → Prop) : Prop := g_X6_putAll_0 Pw x0 x1 S mc ms
theorem c_X6_putAll {l : Launch} {D : va_G} {y : Nat → ClassId} {x0 : Nat} {x1 : Nat} {S : ZS} {kc kt : Nat} {Pw : Int32 → ZS → Prop} (hf : g_X6_putAll x0 x1 S kc kt Pw) : zWv l yX6_putAll wsX6_putAll ({ frames := 2, cells := kc, slots := kt, locals := 82 } : Room) [.ref x0, .ref x1] D y S kc kt Pw :=
  z_wentV (own := RX6) (cc := cX6_putAll) (maxL := 3) (by decide) rfl rfl (Nat.le_of_ble_eq_true rfl) ⟨rfl, rfl⟩ (fun p e s m args below meth c A0 Q H locs ls X hret hM hl => w_X6_putAll_0 X hret hf ⟨Nat.le_refl _, Nat.le_refl _⟩ hM (lv_sub hl [0, 1] rfl))
theorem hd_X6_putAll : yX6_putAll.cls = RX6 ∧ yX6_putAll.cls ≠ "java/lang/invoke/MethodHandle" ∧ yX6_putAll.cls ≠ "java/lang/invoke/VarHandle" ∧ (parseMethodDescriptor yX6_putAll.desc).map (fun d => d.parameters.length) = some 1 := by decide +kernel
theorem fl_X3_putRemark_4_6 : Cond.fieldLink RX3 99 "MoveTexts$Node" "remark" "LMoveTexts$Row;" ∈ wsX3_putRemark := by decide +kernel
theorem hw_X3_putRemark_4 : ∀ w ∈ wsX40, w ∈ wsX3_putRemark := by decide +kernel
def g_X3_putRemark_0 (Pw : Int32 → ZS → Prop) (x0 : Nat) (x1 : Nat) (S : ZS) (C T : Nat) : Prop :=
  m_chkP (x0 ∈ zL S ∧ zK S x0 = 4) (
  m_calP (zP S 6 x0) (fun b1 =>
  m_chkP (b1 ∈ zL S ∧ zK S b1 = 6) (
  m_calP (f_X6_size b1 S) (fun o2 =>
  m_ifP (o2.1 = 0) (
  Pw 0 o2.2
  ) (
  m_gal (C) (T) (fun mc ms Pw => g_X3_putGap x1 o2.2 mc ms Pw) (fun r4 S5 C6 T7 =>
  m_chkP (x1 ∈ zL S5 ∧ zK S5 x1 = 6) (
  m_gal (C6) (T7) (fun mc ms Pw => g_X6_put x1 (123 : Int32) S5 mc ms Pw) (fun r9 S10 C11 T12 =>
  m_chkP (x0 ∈ zL S10 ∧ zK S10 x0 = 4) (
  m_calP (zP S10 6 x0) (fun b13 =>
  m_chkP (x1 ∈ zL S10 ∧ zK S10 x1 = 6) (
  m_gal (C11) (T12) (fun mc ms Pw => g_X6_putAll x1 b13 S10 mc ms Pw) (fun r15 S16 C17 T18 =>
  m_chkP (x1 ∈ zL S16 ∧ zK S16 x1 = 6) (
  m_gal (C17) (T18) (fun mc ms Pw => g_X6_put x1 (125 : Int32) S16 mc ms Pw) (fun r20 S21 C22 T23 =>
  Pw 0 S21)))))))))
  )))))

set_option maxRecDepth 100000 in
set_option maxHeartbeats 4000000 in
theorem w_X3_putRemark_0 {p : Program} {l : Launch} {e : Env} {s : State} {m : MethodId} {args : Array Value} {below : List Frame} {meth : Method} {c : Code} {Q : State → Prop} {D : va_G} {y : Nat → ClassId} {A0 : Nat → Prop} {kc kt : Nat} {Pw : Int32 → ZS → Prop} (X : CallFix p m c cX3_putRemark 2 s args wsX3_putRemark RX3) (hret : zQv p l e ({ frames := 3, cells := kc, slots := kt, locals := 104 } : Room) s m args below meth c Q cX3_putRemark D y A0 Pw) {x0 : Nat} {x1 : Nat} {S : ZS} {C T : Nat} {H : Heap} {locs : List Loc} {ls : Array Slot} (hf : g_X3_putRemark_0 Pw x0 x1 S C T) (hCT : C ≤ kc ∧ T ≤ kt) (hM : zH D y A0 s H locs S) (hl : lv_has ls 2 [(0, .ref x0), (1, .ref x1)]) : W p l e ({ frames := 3, cells := kc, slots := kt, locals := 104 } : Room) s m args below meth c H locs (kc - C) (kt - T) Q (F0 m 0 ls []) := by
  obtain ⟨hx, hb, hml, hown, hts⟩ := id X
  unfold g_X3_putRemark_0 at hf
  refine lv_aload_n hx hb dX3_putRemark_0 rfl (lv_at hl 0 rfl) ?_
  obtain ⟨ca, hf⟩ := m_chkPE hf
  refine z_get (k := 4) (j := 6) (C := RX4) (T := TX4) (N := 7) (fl := zf_4) (v := va_rf (zP S 6 x0)) X hw_X3_putRemark_4 hM rfl zc_4 ca (by decide) fl_X3_putRemark_4_6 rfl dX3_putRemark_1 ?_
  clear ca
  obtain ⟨b1, hb9, hf⟩ := m_calPE hf
  refine z_topr hb9 ?_
  clear hb9
  obtain ⟨ca, hf⟩ := m_chkPE hf
  obtain ⟨o2, ho, hf⟩ := m_calPE hf
  refine z_gcallVi (k := 6) (C := RX6) (T := TX6) (N := 2) (fl := zf_6) X hM rfl zc_6 ca (c_X6_size ho) gX3_putRemark_X6_size rfl ⟨rfl, rfl⟩ hd_X6_size ⟨Nat.le_of_ble_eq_true rfl, Nat.le_of_ble_eq_true rfl⟩ rfl hl.1 rfl ⟨Nat.sub_le _ _, Nat.sub_le _ _⟩ (Nat.le_of_ble_eq_true rfl) dX3_putRemark_4 (fun H locs hM => ?_)
  clear ho
  refine lv_if_ne (tgt := 11) hx hb dX3_putRemark_7 (by decide) (fun cc1 => ?_) (fun cc1 => ?_)
  · replace hf := m_ifPF hf cc1
    refine lv_aload_n hx hb dX3_putRemark_11 rfl (lv_at hl 1 rfl) ?_
    obtain ⟨mc, ms, hcm, ho⟩ := m_galE hf
    refine z_wcallSv X hM (c_X3_putGap ho) gX3_putRemark_X3_putGap rfl ⟨rfl, rfl⟩ ⟨by show kc - (C) + mc ≤ kc; omega, by show kt - (T) + ms ≤ kt; omega⟩ hd_X3_putGap ⟨Nat.le_of_ble_eq_true rfl, Nat.le_of_ble_eq_true rfl⟩ rfl hl.1 rfl (Nat.le_of_ble_eq_true rfl) dX3_putRemark_12 (fun S5 H locs hf hM => ?_)
    refine z_eqCS (c2 := kc - (C - mc)) (t2 := kt - (T - ms)) (by omega) (by omega) ?_
    replace hCT : C - mc ≤ kc ∧ T - ms ≤ kt := by omega
    generalize C - mc = C6 at hf hCT ⊢
    generalize T - ms = T7 at hf hCT ⊢
    clear ho hcm
    refine lv_aload_n hx hb dX3_putRemark_15 rfl (lv_at hl 1 rfl) ?_
    refine lv_bipush (v := (123 : Int32)) hx hb dX3_putRemark_16 (by decide) ?_
    obtain ⟨ca, hf⟩ := m_chkPE hf
    obtain ⟨mc, ms, hcm, ho⟩ := m_galE hf
    refine z_wcallVv (k := 6) (C := RX6) (T := TX6) (N := 2) (fl := zf_6) X hM rfl zc_6 ca (c_X6_put ho) gX3_putRemark_X6_put rfl ⟨rfl, rfl⟩ ⟨by show kc - (C6) + mc ≤ kc; omega, by show kt - (T7) + ms ≤ kt; omega⟩ hd_X6_put ⟨Nat.le_of_ble_eq_true rfl, Nat.le_of_ble_eq_true rfl⟩ rfl hl.1 rfl (Nat.le_of_ble_eq_true rfl) dX3_putRemark_18 (fun S10 H locs hf hM => ?_)
    refine z_eqCS (c2 := kc - (C6 - mc)) (t2 := kt - (T7 - ms)) (by omega) (by omega) ?_
    replace hCT : C6 - mc ≤ kc ∧ T7 - ms ≤ kt := by omega
    generalize C6 - mc = C11 at hf hCT ⊢
    generalize T7 - ms = T12 at hf hCT ⊢
    clear ho hcm
    refine lv_aload_n hx hb dX3_putRemark_21 rfl (lv_at hl 1 rfl) ?_
    refine lv_aload_n hx hb dX3_putRemark_22 rfl (lv_at hl 0 rfl) ?_
    obtain ⟨ca, hf⟩ := m_chkPE hf
    refine z_get (k := 4) (j := 6) (C := RX4) (T := TX4) (N := 7) (fl := zf_4) (v := va_rf (zP S10 6 x0)) X hw_X3_putRemark_4 hM rfl zc_4 ca (by decide) fl_X3_putRemark_4_6 rfl dX3_putRemark_23 ?_
    clear ca
    obtain ⟨b13, hb9, hf⟩ := m_calPE hf
    refine z_topr hb9 ?_
    clear hb9
    obtain ⟨ca, hf⟩ := m_chkPE hf
    obtain ⟨mc, ms, hcm, ho⟩ := m_galE hf
    refine z_wcallVv (k := 6) (C := RX6) (T := TX6) (N := 2) (fl := zf_6) X hM rfl zc_6 ca (c_X6_putAll ho) gX3_putRemark_X6_putAll rfl ⟨rfl, rfl⟩ ⟨by show kc - (C11) + mc ≤ kc; omega, by show kt - (T12) + ms ≤ kt; omega⟩ hd_X6_putAll ⟨Nat.le_of_ble_eq_true rfl, Nat.le_of_ble_eq_true rfl⟩ rfl hl.1 rfl (Nat.le_of_ble_eq_true rfl) dX3_putRemark_26 (fun S16 H locs hf hM => ?_)
    refine z_eqCS (c2 := kc - (C11 - mc)) (t2 := kt - (T12 - ms)) (by omega) (by omega) ?_
    replace hCT : C11 - mc ≤ kc ∧ T12 - ms ≤ kt := by omega
    generalize C11 - mc = C17 at hf hCT ⊢
    generalize T12 - ms = T18 at hf hCT ⊢
    clear ho hcm
    refine lv_aload_n hx hb dX3_putRemark_29 rfl (lv_at hl 1 rfl) ?_
    refine lv_bipush (v := (125 : Int32)) hx hb dX3_putRemark_30 (by decide) ?_
    obtain ⟨ca, hf⟩ := m_chkPE hf
    obtain ⟨mc, ms, hcm, ho⟩ := m_galE hf
    refine z_wcallVv (k := 6) (C := RX6) (T := TX6) (N := 2) (fl := zf_6) X hM rfl zc_6 ca (c_X6_put ho) gX3_putRemark_X6_put rfl ⟨rfl, rfl⟩ ⟨by show kc - (C17) + mc ≤ kc; omega, by show kt - (T18) + ms ≤ kt; omega⟩ hd_X6_put ⟨Nat.le_of_ble_eq_true rfl, Nat.le_of_ble_eq_true rfl⟩ rfl hl.1 rfl (Nat.le_of_ble_eq_true rfl) dX3_putRemark_32 (fun S21 H locs hf hM => ?_)
    refine z_eqCS (c2 := kc - (C17 - mc)) (t2 := kt - (T18 - ms)) (by omega) (by omega) ?_
    replace hCT : C17 - mc ≤ kc ∧ T18 - ms ≤ kt := by omega
    generalize C17 - mc = C22 at hf hCT ⊢
    generalize T18 - ms = T23 at hf hCT ⊢
    clear ho hcm
    exact hret _ _ _ H locs _ ls hf hM dX3_putRemark_35
  · replace hf := m_ifPT hf cc1
    exact hret _ _ _ H locs _ ls hf hM dX3_putRemark_10
def g_X3_putRemark (x0 : Nat) (x1 : Nat) (S : ZS) (mc ms : Nat) (Pw : Int32 → ZS → Prop) : Prop := g_X3_putRemark_0 Pw x0 x1 S mc ms
theorem c_X3_putRemark {l : Launch} {D : va_G} {y : Nat → ClassId} {x0 : Nat} {x1 : Nat} {S : ZS} {kc kt : Nat} {Pw : Int32 → ZS → Prop} (hf : g_X3_putRemark x0 x1 S kc kt Pw) : zWv l yX3_putRemark wsX3_putRemark ({ frames := 3, cells := kc, slots := kt, locals := 104 } : Room) [.ref x0, .ref x1] D y S kc kt Pw :=
  z_wentV (own := RX3) (cc := cX3_putRemark) (maxL := 2) (by decide) rfl rfl (Nat.le_of_ble_eq_true rfl) ⟨rfl, rfl⟩ (fun p e s m args below meth c A0 Q H locs ls X hret hM hl => w_X3_putRemark_0 X hret hf ⟨Nat.le_refl _, Nat.le_refl _⟩ hM (lv_sub hl [0, 1] rfl))
theorem hd_X3_putRemark : yX3_putRemark.cls ≠ "java/lang/invoke/MethodHandle" ∧ yX3_putRemark.cls ≠ "java/lang/invoke/VarHandle" ∧ (parseMethodDescriptor yX3_putRemark.desc).map (fun d => d.parameters.length) = some 2 := by decide +kernel
def g_X6_putNumber_29s (Pw : Int32 → ZS → Prop) (self29 : Nat → Int32 → Int32 → ZS → Nat → Nat → Prop) (x0 : Nat) (x1 : Int32) (x2 : Int32) (S : ZS) (C T : Nat) : Prop :=
  m_ifP (x2 ≤ 0) (
  Pw 0 S
  ) (
  m_chkP (¬ x2 = 0) (
  m_bndP (x1 / x2) (fun v1 =>
  m_bndP (v1 - v1 / (10 : Int32) * (10 : Int32)) (fun v2 =>
  m_bndP ((48 : Int32) + v2) (fun v3 =>
  m_bndP ((v3.toUInt32 % 65536).toInt32) (fun v4 =>
  m_chkP (x0 ∈ zL S ∧ zK S x0 = 6) (
  m_gal (C) (T) (fun mc ms Pw => g_X6_put x0 v4 S mc ms Pw) (fun r6 S7 C8 T9 =>
  m_bndP (x2 / (10 : Int32)) (fun v10 =>
  self29 x0 x1 v10 S7 (C8) (T9)))))))))
  )

set_option maxRecDepth 100000 in
set_option maxHeartbeats 4000000 in
theorem ws_X6_putNumber_29 {p : Program} {l : Launch} {e : Env} {s : State} {m : MethodId} {args : Array Value} {below : List Frame} {meth : Method} {c : Code} {Q : State → Prop} {D : va_G} {y : Nat → ClassId} {A0 : Nat → Prop} {kc kt : Nat} {Pw : Int32 → ZS → Prop} (X : CallFix p m c cX6_putNumber 4 s args wsX6_putNumber RX6) (hret : zQv p l e ({ frames := 2, cells := kc, slots := kt, locals := 82 } : Room) s m args below meth c Q cX6_putNumber D y A0 Pw) {self29 : Nat → Int32 → Int32 → ZS → Nat → Nat → Prop} (hself29 : ∀ (x0 : Nat) (x1 : Int32) (x2 : Int32) (S : ZS) (C T : Nat) (H : Heap) (locs : List Loc) (ls : Array Slot), self29 x0 x1 x2 S C T → C ≤ kc ∧ T ≤ kt → zH D y A0 s H locs S → lv_has ls 4 [(0, .ref x0), (1, .int x1), (2, .int x2)] → W p l e ({ frames := 2, cells := kc, slots := kt, locals := 82 } : Room) s m args below meth c H locs (kc - C) (kt - T) Q (F0 m 29 ls [])) {x0 : Nat} {x1 : Int32} {x2 : Int32} {S : ZS} {C T : Nat} {H : Heap} {locs : List Loc} {ls : Array Slot} (hf : g_X6_putNumber_29s Pw self29 x0 x1 x2 S C T) (hCT : C ≤ kc ∧ T ≤ kt) (hM : zH D y A0 s H locs S) (hl : lv_has ls 4 [(0, .ref x0), (1, .int x1), (2, .int x2)]) : W p l e ({ frames := 2, cells := kc, slots := kt, locals := 82 } : Room) s m args below meth c H locs (kc - C) (kt - T) Q (F0 m 29 ls []) := by
  obtain ⟨hx, hb, hml, hown, hts⟩ := id X
  unfold g_X6_putNumber_29s at hf
  refine lv_iload_n hx hb dX6_putNumber_29 rfl (lv_at hl 2 rfl) ?_
  refine lv_if_le (tgt := 55) hx hb dX6_putNumber_30 (by decide) (fun cc1 => ?_) (fun cc1 => ?_)
  · replace hf := m_ifPT hf cc1
    exact hret _ _ _ H locs _ ls hf hM dX6_putNumber_55
  · replace hf := m_ifPF hf cc1
    refine lv_aload_n hx hb dX6_putNumber_33 rfl (lv_at hl 0 rfl) ?_
    refine lv_bipush (v := (48 : Int32)) hx hb dX6_putNumber_34 (by decide) ?_
    refine lv_iload_n hx hb dX6_putNumber_36 rfl (lv_at hl 1 rfl) ?_
    refine lv_iload_n hx hb dX6_putNumber_37 rfl (lv_at hl 2 rfl) ?_
    obtain ⟨cd, hf⟩ := m_chkPE hf
    refine lv_idiv hx hb dX6_putNumber_38 cd ?_
    obtain ⟨v1, ev, hf⟩ := m_bndPE hf
    refine m_top ev ?_
    clear ev
    refine lv_bipush (v := (10 : Int32)) hx hb dX6_putNumber_39 (by decide) ?_
    refine lv_irem hx hb dX6_putNumber_41 (by decide) ?_
    obtain ⟨v2, ev, hf⟩ := m_bndPE hf
    refine m_top ev ?_
    clear ev
    refine lv_iadd hx hb dX6_putNumber_42 ?_
    obtain ⟨v3, ev, hf⟩ := m_bndPE hf
    refine m_top ev ?_
    clear ev
    refine lv_i2c (v := (v3.toUInt32 % 65536).toInt32) hx hb dX6_putNumber_43 rfl ?_
    obtain ⟨v4, ev, hf⟩ := m_bndPE hf
    refine m_top ev ?_
    clear ev
    obtain ⟨ca, hf⟩ := m_chkPE hf
    obtain ⟨mc, ms, hcm, ho⟩ := m_galE hf
    refine z_wcallVv (k := 6) (C := RX6) (T := TX6) (N := 2) (fl := zf_6) X hM rfl zc_6 ca (c_X6_put ho) gX6_putNumber_X6_put rfl ⟨rfl, rfl⟩ ⟨by show kc - (C) + mc ≤ kc; omega, by show kt - (T) + ms ≤ kt; omega⟩ hd_X6_put ⟨Nat.le_of_ble_eq_true rfl, Nat.le_of_ble_eq_true rfl⟩ rfl hl.1 rfl (Nat.le_of_ble_eq_true rfl) dX6_putNumber_44 (fun S7 H locs hf hM => ?_)
    refine z_eqCS (c2 := kc - (C - mc)) (t2 := kt - (T - ms)) (by omega) (by omega) ?_
    replace hCT : C - mc ≤ kc ∧ T - ms ≤ kt := by omega
    generalize C - mc = C8 at hf hCT ⊢
    generalize T - ms = T9 at hf hCT ⊢
    clear ho hcm
    refine lv_iload_n hx hb dX6_putNumber_47 rfl (lv_at hl 2 rfl) ?_
    refine lv_bipush (v := (10 : Int32)) hx hb dX6_putNumber_48 (by decide) ?_
    refine lv_idiv hx hb dX6_putNumber_50 (by decide) ?_
    obtain ⟨v10, ev, hf⟩ := m_bndPE hf
    refine m_top ev ?_
    clear ev
    refine lv_istore_n (lv' := [(2, .int v10), (0, .ref x0), (1, .int x1)]) hx hb dX6_putNumber_51 rfl hl (by decide) rfl (fun ls hl => ?_)
    refine lv_goto (tgt := 29) hx hb dX6_putNumber_52 (by decide) ?_
    exact hself29 x0 x1 v10 _ _ _ _ _ _ hf hCT hM (lv_sub hl [1, 2, 0] rfl)
def g_X6_putNumber_29 (Pw : Int32 → ZS → Prop) : Nat → Nat → Int32 → Int32 → ZS → Nat → Nat → Prop
  | 0 => fun _ _ _ _ _ _ => False
  | n + 1 => g_X6_putNumber_29s Pw (g_X6_putNumber_29 Pw n)
theorem w_X6_putNumber_29 {p : Program} {l : Launch} {e : Env} {s : State} {m : MethodId} {args : Array Value} {below : List Frame} {meth : Method} {c : Code} {Q : State → Prop} {D : va_G} {y : Nat → ClassId} {A0 : Nat → Prop} {kc kt : Nat} {Pw : Int32 → ZS → Prop} (X : CallFix p m c cX6_putNumber 4 s args wsX6_putNumber RX6) (hret : zQv p l e ({ frames := 2, cells := kc, slots := kt, locals := 82 } : Room) s m args below meth c Q cX6_putNumber D y A0 Pw) (n : Nat) : ∀ (x0 : Nat) (x1 : Int32) (x2 : Int32) (S : ZS) (C T : Nat) (H : Heap) (locs : List Loc) (ls : Array Slot), g_X6_putNumber_29 Pw n x0 x1 x2 S C T → C ≤ kc ∧ T ≤ kt → zH D y A0 s H locs S → lv_has ls 4 [(0, .ref x0), (1, .int x1), (2, .int x2)] → W p l e ({ frames := 2, cells := kc, slots := kt, locals := 82 } : Room) s m args below meth c H locs (kc - C) (kt - T) Q (F0 m 29 ls []) := by
  induction n with
  | zero => intro x0 x1 x2 S C T H locs ls hf; exact absurd hf id
  | succ n ih => intro x0 x1 x2 S C T H locs ls hf hCT hM hl; exact ws_X6_putNumber_29 X hret (self29 := g_X6_putNumber_29 Pw n) ih hf hCT hM hl
def g_X6_putNumber_4s (Pw : Int32 → ZS → Prop) (self4 : Nat → Int32 → Int32 → Int32 → ZS → Nat → Nat → Prop) (x0 : Nat) (x1 : Int32) (x2 : Int32) (x3 : Int32) (S : ZS) (C T : Nat) : Prop :=
  m_ifP ((9 : Int32) ≤ x3) (
  g_X6_putNumber_29 Pw mFuel x0 x1 x2 S (C) (T)
  ) (
  m_chkP (¬ x2 = 0) (
  m_bndP (x1 / x2) (fun v1 =>
  m_ifP (v1 < (10 : Int32)) (
  g_X6_putNumber_29 Pw mFuel x0 x1 x2 S (C) (T)
  ) (
  m_bndP (x2 * (10 : Int32)) (fun v2 =>
  m_bndP (x3 + (1 : Int32)) (fun v3 =>
  self4 x0 x1 v2 v3 S (C) (T)))
  )))
  )

set_option maxRecDepth 100000 in
set_option maxHeartbeats 4000000 in
theorem ws_X6_putNumber_4 {p : Program} {l : Launch} {e : Env} {s : State} {m : MethodId} {args : Array Value} {below : List Frame} {meth : Method} {c : Code} {Q : State → Prop} {D : va_G} {y : Nat → ClassId} {A0 : Nat → Prop} {kc kt : Nat} {Pw : Int32 → ZS → Prop} (X : CallFix p m c cX6_putNumber 4 s args wsX6_putNumber RX6) (hret : zQv p l e ({ frames := 2, cells := kc, slots := kt, locals := 82 } : Room) s m args below meth c Q cX6_putNumber D y A0 Pw) {self4 : Nat → Int32 → Int32 → Int32 → ZS → Nat → Nat → Prop} (hself4 : ∀ (x0 : Nat) (x1 : Int32) (x2 : Int32) (x3 : Int32) (S : ZS) (C T : Nat) (H : Heap) (locs : List Loc) (ls : Array Slot), self4 x0 x1 x2 x3 S C T → C ≤ kc ∧ T ≤ kt → zH D y A0 s H locs S → lv_has ls 4 [(0, .ref x0), (1, .int x1), (2, .int x2), (3, .int x3)] → W p l e ({ frames := 2, cells := kc, slots := kt, locals := 82 } : Room) s m args below meth c H locs (kc - C) (kt - T) Q (F0 m 4 ls [])) {x0 : Nat} {x1 : Int32} {x2 : Int32} {x3 : Int32} {S : ZS} {C T : Nat} {H : Heap} {locs : List Loc} {ls : Array Slot} (hf : g_X6_putNumber_4s Pw self4 x0 x1 x2 x3 S C T) (hCT : C ≤ kc ∧ T ≤ kt) (hM : zH D y A0 s H locs S) (hl : lv_has ls 4 [(0, .ref x0), (1, .int x1), (2, .int x2), (3, .int x3)]) : W p l e ({ frames := 2, cells := kc, slots := kt, locals := 82 } : Room) s m args below meth c H locs (kc - C) (kt - T) Q (F0 m 4 ls []) := by
  obtain ⟨hx, hb, hml, hown, hts⟩ := id X
  unfold g_X6_putNumber_4s at hf
  refine lv_iload_n hx hb dX6_putNumber_4 rfl (lv_at hl 3 rfl) ?_
  refine lv_bipush (v := (9 : Int32)) hx hb dX6_putNumber_5 (by decide) ?_
  refine lv_icmp_ge (tgt := 29) hx hb dX6_putNumber_7 (by decide) (fun cc1 => ?_) (fun cc1 => ?_)
  · replace hf := m_ifPT hf cc1
    exact w_X6_putNumber_29 X hret _ x0 x1 x2 _ _ _ _ _ _ hf hCT hM (lv_sub hl [0, 1, 2] rfl)
  · replace hf := m_ifPF hf cc1
    refine lv_iload_n hx hb dX6_putNumber_10 rfl (lv_at hl 1 rfl) ?_
    refine lv_iload_n hx hb dX6_putNumber_11 rfl (lv_at hl 2 rfl) ?_
    obtain ⟨cd, hf⟩ := m_chkPE hf
    refine lv_idiv hx hb dX6_putNumber_12 cd ?_
    obtain ⟨v1, ev, hf⟩ := m_bndPE hf
    refine m_top ev ?_
    clear ev
    refine lv_bipush (v := (10 : Int32)) hx hb dX6_putNumber_13 (by decide) ?_
    refine lv_icmp_lt (tgt := 29) hx hb dX6_putNumber_15 (by decide) (fun cc1 => ?_) (fun cc1 => ?_)
    · replace hf := m_ifPT hf cc1
      exact w_X6_putNumber_29 X hret _ x0 x1 x2 _ _ _ _ _ _ hf hCT hM (lv_sub hl [0, 1, 2] rfl)
    · replace hf := m_ifPF hf cc1
      refine lv_iload_n hx hb dX6_putNumber_18 rfl (lv_at hl 2 rfl) ?_
      refine lv_bipush (v := (10 : Int32)) hx hb dX6_putNumber_19 (by decide) ?_
      refine lv_imul hx hb dX6_putNumber_21 ?_
      obtain ⟨v2, ev, hf⟩ := m_bndPE hf
      refine m_top ev ?_
      clear ev
      refine lv_istore_n (lv' := [(2, .int v2), (0, .ref x0), (1, .int x1), (3, .int x3)]) hx hb dX6_putNumber_22 rfl hl (by decide) rfl (fun ls hl => ?_)
      obtain ⟨v3, ev, hf⟩ := m_bndPE hf
      refine lv_iinc (v := v3) (lv' := [(3, .int v3), (2, .int v2), (0, .ref x0), (1, .int x1)]) hx hb dX6_putNumber_23 hl (k := 3) rfl (by rw [ev]; rfl) (by decide) rfl (fun ls hl => ?_)
      clear ev
      refine lv_goto (tgt := 4) hx hb dX6_putNumber_26 (by decide) ?_
      exact hself4 x0 x1 v2 v3 _ _ _ _ _ _ hf hCT hM (lv_sub hl [2, 3, 1, 0] rfl)
def g_X6_putNumber_4 (Pw : Int32 → ZS → Prop) : Nat → Nat → Int32 → Int32 → Int32 → ZS → Nat → Nat → Prop
  | 0 => fun _ _ _ _ _ _ _ => False
  | n + 1 => g_X6_putNumber_4s Pw (g_X6_putNumber_4 Pw n)
theorem w_X6_putNumber_4 {p : Program} {l : Launch} {e : Env} {s : State} {m : MethodId} {args : Array Value} {below : List Frame} {meth : Method} {c : Code} {Q : State → Prop} {D : va_G} {y : Nat → ClassId} {A0 : Nat → Prop} {kc kt : Nat} {Pw : Int32 → ZS → Prop} (X : CallFix p m c cX6_putNumber 4 s args wsX6_putNumber RX6) (hret : zQv p l e ({ frames := 2, cells := kc, slots := kt, locals := 82 } : Room) s m args below meth c Q cX6_putNumber D y A0 Pw) (n : Nat) : ∀ (x0 : Nat) (x1 : Int32) (x2 : Int32) (x3 : Int32) (S : ZS) (C T : Nat) (H : Heap) (locs : List Loc) (ls : Array Slot), g_X6_putNumber_4 Pw n x0 x1 x2 x3 S C T → C ≤ kc ∧ T ≤ kt → zH D y A0 s H locs S → lv_has ls 4 [(0, .ref x0), (1, .int x1), (2, .int x2), (3, .int x3)] → W p l e ({ frames := 2, cells := kc, slots := kt, locals := 82 } : Room) s m args below meth c H locs (kc - C) (kt - T) Q (F0 m 4 ls []) := by
  induction n with
  | zero => intro x0 x1 x2 x3 S C T H locs ls hf; exact absurd hf id
  | succ n ih => intro x0 x1 x2 x3 S C T H locs ls hf hCT hM hl; exact ws_X6_putNumber_4 X hret (self4 := g_X6_putNumber_4 Pw n) ih hf hCT hM hl
def g_X6_putNumber_0 (Pw : Int32 → ZS → Prop) (x0 : Nat) (x1 : Int32) (S : ZS) (C T : Nat) : Prop :=
  g_X6_putNumber_4 Pw mFuel x0 x1 (1 : Int32) (0 : Int32) S (C) (T)

set_option maxRecDepth 100000 in
set_option maxHeartbeats 4000000 in
theorem w_X6_putNumber_0 {p : Program} {l : Launch} {e : Env} {s : State} {m : MethodId} {args : Array Value} {below : List Frame} {meth : Method} {c : Code} {Q : State → Prop} {D : va_G} {y : Nat → ClassId} {A0 : Nat → Prop} {kc kt : Nat} {Pw : Int32 → ZS → Prop} (X : CallFix p m c cX6_putNumber 4 s args wsX6_putNumber RX6) (hret : zQv p l e ({ frames := 2, cells := kc, slots := kt, locals := 82 } : Room) s m args below meth c Q cX6_putNumber D y A0 Pw) {x0 : Nat} {x1 : Int32} {S : ZS} {C T : Nat} {H : Heap} {locs : List Loc} {ls : Array Slot} (hf : g_X6_putNumber_0 Pw x0 x1 S C T) (hCT : C ≤ kc ∧ T ≤ kt) (hM : zH D y A0 s H locs S) (hl : lv_has ls 4 [(0, .ref x0), (1, .int x1)]) : W p l e ({ frames := 2, cells := kc, slots := kt, locals := 82 } : Room) s m args below meth c H locs (kc - C) (kt - T) Q (F0 m 0 ls []) := by
  obtain ⟨hx, hb, hml, hown, hts⟩ := id X
  unfold g_X6_putNumber_0 at hf
  refine lv_iconst (v := (1 : Int32)) hx hb dX6_putNumber_0 (by decide) ?_
  refine lv_istore_n (lv' := [(2, .int (1 : Int32)), (0, .ref x0), (1, .int x1)]) hx hb dX6_putNumber_1 rfl hl (by decide) rfl (fun ls hl => ?_)
  refine lv_iconst (v := (0 : Int32)) hx hb dX6_putNumber_2 (by decide) ?_
  refine lv_istore_n (lv' := [(3, .int (0 : Int32)), (2, .int (1 : Int32)), (0, .ref x0), (1, .int x1)]) hx hb dX6_putNumber_3 rfl hl (by decide) rfl (fun ls hl => ?_)
  exact w_X6_putNumber_4 X hret _ x0 x1 (1 : Int32) (0 : Int32) _ _ _ _ _ _ hf hCT hM (lv_sub hl [2, 3, 1, 0] rfl)
def g_X6_putNumber (x0 : Nat) (x1 : Int32) (S : ZS) (mc ms : Nat) (Pw : Int32 → ZS → Prop) : Prop := g_X6_putNumber_0 Pw x0 x1 S mc ms
theorem c_X6_putNumber {l : Launch} {D : va_G} {y : Nat → ClassId} {x0 : Nat} {x1 : Int32} {S : ZS} {kc kt : Nat} {Pw : Int32 → ZS → Prop} (hf : g_X6_putNumber x0 x1 S kc kt Pw) : zWv l yX6_putNumber wsX6_putNumber ({ frames := 2, cells := kc, slots := kt, locals := 82 } : Room) [.ref x0, .int x1] D y S kc kt Pw :=
  z_wentV (own := RX6) (cc := cX6_putNumber) (maxL := 4) (by decide) rfl rfl (Nat.le_of_ble_eq_true rfl) ⟨rfl, rfl⟩ (fun p e s m args below meth c A0 Q H locs ls X hret hM hl => w_X6_putNumber_0 X hret hf ⟨Nat.le_refl _, Nat.le_refl _⟩ hM (lv_sub hl [0, 1] rfl))
theorem hd_X6_putNumber : yX6_putNumber.cls = RX6 ∧ yX6_putNumber.cls ≠ "java/lang/invoke/MethodHandle" ∧ yX6_putNumber.cls ≠ "java/lang/invoke/VarHandle" ∧ (parseMethodDescriptor yX6_putNumber.desc).map (fun d => d.parameters.length) = some 1 := by decide +kernel
theorem sr_X11_letterOf_286 : (RX11, 286, "PNBRQK", 9) ∈ zSR := by decide +kernel
def f_X11_letterOf_25 (t0 : Int32) (S : ZS) : Option (Int32 × ZS) :=
  m_chk (vp_nar .char t0 = t0) (some (t0, S))

set_option maxRecDepth 100000 in
set_option maxHeartbeats 4000000 in
theorem w_X11_letterOf_25 {p : Program} {l : Launch} {e : Env} {s : State} {m : MethodId} {args : Array Value} {below : List Frame} {meth : Method} {c : Code} {Q : State → Prop} {D : va_G} {y : Nat → ClassId} {A0 : Nat → Prop} {o : Int32 × ZS} (X : CallFix p m c cX11_letterOf 1 s args wsX11_letterOf RX11) (hret : zRi p l e ({ frames := 4, cells := 0, slots := 0, locals := 85 } : Room) s m args below meth c Q cX11_letterOf D y A0 .char o) {t0 : Int32} {S : ZS} {H : Heap} {locs : List Loc} {ls : Array Slot} (hf : f_X11_letterOf_25 t0 S = some o) (hM : zH D y A0 s H locs S) (hl : lv_has ls 1 []) : W p l e ({ frames := 4, cells := 0, slots := 0, locals := 85 } : Room) s m args below meth c H locs 0 0 Q (F0 m 25 ls [.int t0]) := by
  obtain ⟨hx, hb, hml, hown, hts⟩ := id X
  unfold f_X11_letterOf_25 at hf
  obtain ⟨cd, hf⟩ := m_chkE hf
  cases hf
  exact hret H locs _ ls hM (m_nc cd) dX11_letterOf_25
def f_X11_letterOf_23 (S : ZS) : Option (Int32 × ZS) :=
  f_X11_letterOf_25 (63 : Int32) S

set_option maxRecDepth 100000 in
set_option maxHeartbeats 4000000 in
theorem w_X11_letterOf_23 {p : Program} {l : Launch} {e : Env} {s : State} {m : MethodId} {args : Array Value} {below : List Frame} {meth : Method} {c : Code} {Q : State → Prop} {D : va_G} {y : Nat → ClassId} {A0 : Nat → Prop} {o : Int32 × ZS} (X : CallFix p m c cX11_letterOf 1 s args wsX11_letterOf RX11) (hret : zRi p l e ({ frames := 4, cells := 0, slots := 0, locals := 85 } : Room) s m args below meth c Q cX11_letterOf D y A0 .char o) {S : ZS} {H : Heap} {locs : List Loc} {ls : Array Slot} (hf : f_X11_letterOf_23  S = some o) (hM : zH D y A0 s H locs S) (hl : lv_has ls 1 []) : W p l e ({ frames := 4, cells := 0, slots := 0, locals := 85 } : Room) s m args below meth c H locs 0 0 Q (F0 m 23 ls []) := by
  obtain ⟨hx, hb, hml, hown, hts⟩ := id X
  unfold f_X11_letterOf_23 at hf
  refine lv_bipush (v := (63 : Int32)) hx hb dX11_letterOf_23 (by decide) ?_
  exact w_X11_letterOf_25 (t0 := (63 : Int32)) X hret hf hM (lv_sub hl [] rfl)
def f_X11_letterOf_0 (x0 : Int32) (S : ZS) : Option (Int32 × ZS) :=
  m_if (x0 < (1 : Int32)) (
  f_X11_letterOf_23  S
  ) (
  m_if ((6 : Int32) < x0) (
  f_X11_letterOf_23  S
  ) (
  m_bnd (x0 - (1 : Int32)) (fun v1 =>
  m_chk (9 < zSn) (
  m_cal (f_J0_charAt_5068e 9 v1 S) (fun o2 =>
  f_X11_letterOf_25 o2.1 o2.2)))
  )
  )

set_option maxRecDepth 100000 in
set_option maxHeartbeats 4000000 in
theorem w_X11_letterOf_0 {p : Program} {l : Launch} {e : Env} {s : State} {m : MethodId} {args : Array Value} {below : List Frame} {meth : Method} {c : Code} {Q : State → Prop} {D : va_G} {y : Nat → ClassId} {A0 : Nat → Prop} {o : Int32 × ZS} (X : CallFix p m c cX11_letterOf 1 s args wsX11_letterOf RX11) (hret : zRi p l e ({ frames := 4, cells := 0, slots := 0, locals := 85 } : Room) s m args below meth c Q cX11_letterOf D y A0 .char o) {x0 : Int32} {S : ZS} {H : Heap} {locs : List Loc} {ls : Array Slot} (hf : f_X11_letterOf_0 x0 S = some o) (hM : zH D y A0 s H locs S) (hl : lv_has ls 1 [(0, .int x0)]) : W p l e ({ frames := 4, cells := 0, slots := 0, locals := 85 } : Room) s m args below meth c H locs 0 0 Q (F0 m 0 ls []) := by
  obtain ⟨hx, hb, hml, hown, hts⟩ := id X
  unfold f_X11_letterOf_0 at hf
  refine lv_iload_n hx hb dX11_letterOf_0 rfl (lv_at hl 0 rfl) ?_
  refine lv_iconst (v := (1 : Int32)) hx hb dX11_letterOf_1 (by decide) ?_
  refine lv_icmp_lt (tgt := 23) hx hb dX11_letterOf_2 (by decide) (fun cc1 => ?_) (fun cc1 => ?_)
  · replace hf := m_ifT hf cc1
    exact w_X11_letterOf_23 X hret hf hM (lv_sub hl [] rfl)
  · replace hf := m_ifF hf cc1
    refine lv_iload_n hx hb dX11_letterOf_5 rfl (lv_at hl 0 rfl) ?_
    refine lv_bipush (v := (6 : Int32)) hx hb dX11_letterOf_6 (by decide) ?_
    refine lv_icmp_gt (tgt := 23) hx hb dX11_letterOf_8 (by decide) (fun cc1 => ?_) (fun cc1 => ?_)
    · replace hf := m_ifT hf cc1
      exact w_X11_letterOf_23 X hret hf hM (lv_sub hl [] rfl)
    · replace hf := m_ifF hf cc1
      refine z_ldcwS X hM sr_X11_letterOf_286 dX11_letterOf_11 ?_
      refine lv_iload_n hx hb dX11_letterOf_14 rfl (lv_at hl 0 rfl) ?_
      refine lv_iconst (v := (1 : Int32)) hx hb dX11_letterOf_15 (by decide) ?_
      refine lv_isub hx hb dX11_letterOf_16 ?_
      obtain ⟨v1, ev, hf⟩ := m_bndE hf
      refine m_top ev ?_
      clear ev
      obtain ⟨ca, hf⟩ := m_chkE hf
      obtain ⟨o2, ho, hf⟩ := m_calE hf
      refine z_callTi X hM ca (c_J0_charAt_5068e ho) gX11_letterOf_J0_charAt_5068e rfl ⟨rfl, rfl⟩ hd_J0_charAt_5068e ⟨Nat.le_of_ble_eq_true rfl, Nat.le_of_ble_eq_true rfl⟩ rfl hl.1 rfl (Nat.le_of_ble_eq_true rfl) dX11_letterOf_17 (fun H locs hM => ?_)
      clear ho
      refine lv_goto (tgt := 25) hx hb dX11_letterOf_20 (by decide) ?_
      exact w_X11_letterOf_25 (t0 := o2.1) X hret hf hM (lv_sub hl [] rfl)
def f_X11_letterOf (x0 : Int32) (S : ZS) : Option (Int32 × ZS) := f_X11_letterOf_0 x0 S
theorem c_X11_letterOf {l : Launch} {D : va_G} {y : Nat → ClassId} {x0 : Int32} {S : ZS} {o : Int32 × ZS} (hf : f_X11_letterOf x0 S = some o) : zMi l yX11_letterOf wsX11_letterOf ({ frames := 4, cells := 0, slots := 0, locals := 85 } : Room) [.int x0] D y S o :=
  z_entryI (own := RX11) (cc := cX11_letterOf) (maxL := 1) (by decide) rfl rfl (Nat.le_of_ble_eq_true rfl) (fun p e s m args below meth c A0 Q H locs ls X hret hM hl => w_X11_letterOf_0 X hret hf hM (lv_sub hl [0] rfl))
theorem hd_X11_letterOf : yX11_letterOf.cls ≠ "java/lang/invoke/MethodHandle" ∧ yX11_letterOf.cls ≠ "java/lang/invoke/VarHandle" ∧ (parseMethodDescriptor yX11_letterOf.desc).map (fun d => d.parameters.length) = some 1 := by decide +kernel
def f_X11_fileLetter_0 (x0 : Int32) (S : ZS) : Option (Int32 × ZS) :=
  m_bnd (x0 &&& (7 : Int32)) (fun v1 =>
  m_bnd ((97 : Int32) + v1) (fun v2 =>
  m_bnd ((v2.toUInt32 % 65536).toInt32) (fun v3 =>
  m_chk (vp_nar .char v3 = v3) (some (v3, S)))))

set_option maxRecDepth 100000 in
set_option maxHeartbeats 4000000 in
theorem w_X11_fileLetter_0 {p : Program} {l : Launch} {e : Env} {s : State} {m : MethodId} {args : Array Value} {below : List Frame} {meth : Method} {c : Code} {Q : State → Prop} {D : va_G} {y : Nat → ClassId} {A0 : Nat → Prop} {o : Int32 × ZS} (X : CallFix p m c cX11_fileLetter 1 s args wsX11_fileLetter RX11) (hret : zRi p l e ({ frames := 0, cells := 0, slots := 0, locals := 0 } : Room) s m args below meth c Q cX11_fileLetter D y A0 .char o) {x0 : Int32} {S : ZS} {H : Heap} {locs : List Loc} {ls : Array Slot} (hf : f_X11_fileLetter_0 x0 S = some o) (hM : zH D y A0 s H locs S) (hl : lv_has ls 1 [(0, .int x0)]) : W p l e ({ frames := 0, cells := 0, slots := 0, locals := 0 } : Room) s m args below meth c H locs 0 0 Q (F0 m 0 ls []) := by
  obtain ⟨hx, hb, hml, hown, hts⟩ := id X
  unfold f_X11_fileLetter_0 at hf
  refine lv_bipush (v := (97 : Int32)) hx hb dX11_fileLetter_0 (by decide) ?_
  refine lv_iload_n hx hb dX11_fileLetter_2 rfl (lv_at hl 0 rfl) ?_
  refine lv_bipush (v := (7 : Int32)) hx hb dX11_fileLetter_3 (by decide) ?_
  refine lv_iand hx hb dX11_fileLetter_5 ?_
  obtain ⟨v1, ev, hf⟩ := m_bndE hf
  refine m_top ev ?_
  clear ev
  refine lv_iadd hx hb dX11_fileLetter_6 ?_
  obtain ⟨v2, ev, hf⟩ := m_bndE hf
  refine m_top ev ?_
  clear ev
  refine lv_i2c (v := (v2.toUInt32 % 65536).toInt32) hx hb dX11_fileLetter_7 rfl ?_
  obtain ⟨v3, ev, hf⟩ := m_bndE hf
  refine m_top ev ?_
  clear ev
  obtain ⟨cd, hf⟩ := m_chkE hf
  cases hf
  exact hret H locs _ ls hM (m_nc cd) dX11_fileLetter_8
def f_X11_fileLetter (x0 : Int32) (S : ZS) : Option (Int32 × ZS) := f_X11_fileLetter_0 x0 S
theorem c_X11_fileLetter {l : Launch} {D : va_G} {y : Nat → ClassId} {x0 : Int32} {S : ZS} {o : Int32 × ZS} (hf : f_X11_fileLetter x0 S = some o) : zMi l yX11_fileLetter wsX11_fileLetter ({ frames := 0, cells := 0, slots := 0, locals := 0 } : Room) [.int x0] D y S o :=
  z_entryI (own := RX11) (cc := cX11_fileLetter) (maxL := 1) (by decide) rfl rfl (Nat.le_of_ble_eq_true rfl) (fun p e s m args below meth c A0 Q H locs ls X hret hM hl => w_X11_fileLetter_0 X hret hf hM (lv_sub hl [0] rfl))
theorem hd_X11_fileLetter : yX11_fileLetter.cls ≠ "java/lang/invoke/MethodHandle" ∧ yX11_fileLetter.cls ≠ "java/lang/invoke/VarHandle" ∧ (parseMethodDescriptor yX11_fileLetter.desc).map (fun d => d.parameters.length) = some 1 := by decide +kernel
def f_X11_rankDigit_0 (x0 : Int32) (S : ZS) : Option (Int32 × ZS) :=
  m_bnd (x0 >>> ((3 : Int32) &&& 31)) (fun v1 =>
  m_bnd ((49 : Int32) + v1) (fun v2 =>
  m_bnd ((v2.toUInt32 % 65536).toInt32) (fun v3 =>
  m_chk (vp_nar .char v3 = v3) (some (v3, S)))))

set_option maxRecDepth 100000 in
set_option maxHeartbeats 4000000 in
theorem w_X11_rankDigit_0 {p : Program} {l : Launch} {e : Env} {s : State} {m : MethodId} {args : Array Value} {below : List Frame} {meth : Method} {c : Code} {Q : State → Prop} {D : va_G} {y : Nat → ClassId} {A0 : Nat → Prop} {o : Int32 × ZS} (X : CallFix p m c cX11_rankDigit 1 s args wsX11_rankDigit RX11) (hret : zRi p l e ({ frames := 0, cells := 0, slots := 0, locals := 0 } : Room) s m args below meth c Q cX11_rankDigit D y A0 .char o) {x0 : Int32} {S : ZS} {H : Heap} {locs : List Loc} {ls : Array Slot} (hf : f_X11_rankDigit_0 x0 S = some o) (hM : zH D y A0 s H locs S) (hl : lv_has ls 1 [(0, .int x0)]) : W p l e ({ frames := 0, cells := 0, slots := 0, locals := 0 } : Room) s m args below meth c H locs 0 0 Q (F0 m 0 ls []) := by
  obtain ⟨hx, hb, hml, hown, hts⟩ := id X
  unfold f_X11_rankDigit_0 at hf
  refine lv_bipush (v := (49 : Int32)) hx hb dX11_rankDigit_0 (by decide) ?_
  refine lv_iload_n hx hb dX11_rankDigit_2 rfl (lv_at hl 0 rfl) ?_
  refine lv_iconst (v := (3 : Int32)) hx hb dX11_rankDigit_3 (by decide) ?_
  refine lv_ishr hx hb dX11_rankDigit_4 ?_
  obtain ⟨v1, ev, hf⟩ := m_bndE hf
  refine m_top ev ?_
  clear ev
  refine lv_iadd hx hb dX11_rankDigit_5 ?_
  obtain ⟨v2, ev, hf⟩ := m_bndE hf
  refine m_top ev ?_
  clear ev
  refine lv_i2c (v := (v2.toUInt32 % 65536).toInt32) hx hb dX11_rankDigit_6 rfl ?_
  obtain ⟨v3, ev, hf⟩ := m_bndE hf
  refine m_top ev ?_
  clear ev
  obtain ⟨cd, hf⟩ := m_chkE hf
  cases hf
  exact hret H locs _ ls hM (m_nc cd) dX11_rankDigit_7
def f_X11_rankDigit (x0 : Int32) (S : ZS) : Option (Int32 × ZS) := f_X11_rankDigit_0 x0 S
theorem c_X11_rankDigit {l : Launch} {D : va_G} {y : Nat → ClassId} {x0 : Int32} {S : ZS} {o : Int32 × ZS} (hf : f_X11_rankDigit x0 S = some o) : zMi l yX11_rankDigit wsX11_rankDigit ({ frames := 0, cells := 0, slots := 0, locals := 0 } : Room) [.int x0] D y S o :=
  z_entryI (own := RX11) (cc := cX11_rankDigit) (maxL := 1) (by decide) rfl rfl (Nat.le_of_ble_eq_true rfl) (fun p e s m args below meth c A0 Q H locs ls X hret hM hl => w_X11_rankDigit_0 X hret hf hM (lv_sub hl [0] rfl))
theorem hd_X11_rankDigit : yX11_rankDigit.cls ≠ "java/lang/invoke/MethodHandle" ∧ yX11_rankDigit.cls ≠ "java/lang/invoke/VarHandle" ∧ (parseMethodDescriptor yX11_rankDigit.desc).map (fun d => d.parameters.length) = some 1 := by decide +kernel
