theorem fl_X7_checkSign_0_3 : Cond.fieldLink RX7 21 "MoveTexts$Board" "side" "I" ∈ wsX7_checkSign := by decide +kernel
theorem fl_X7_checkSign_7_1 : Cond.fieldLink RX7 18 "MoveTexts$Rules" "after" "LMoveTexts$Board;" ∈ wsX7_checkSign := by decide +kernel
theorem hw_X7_checkSign_0 : ∀ w ∈ wsX00, w ∈ wsX7_checkSign := by decide +kernel
theorem hw_X7_checkSign_7 : ∀ w ∈ wsX70, w ∈ wsX7_checkSign := by decide +kernel
def f_X7_checkSign_103 (self53 : Nat → Int32 → ZS → Option (Int32 × ZS)) (self62 : Nat → Int32 → Int32 → ZS → Option (Int32 × ZS)) (x0 : Nat) (x3 : Int32) (x4 : Int32) (S : ZS) : Option (Int32 × ZS) :=
  m_bnd (x4 + (1 : Int32)) (fun v1 =>
  self62 x0 x3 v1 S)

set_option maxRecDepth 100000 in
set_option maxHeartbeats 4000000 in
theorem w_X7_checkSign_103 {p : Program} {l : Launch} {e : Env} {s : State} {m : MethodId} {args : Array Value} {below : List Frame} {meth : Method} {c : Code} {Q : State → Prop} {D : va_G} {y : Nat → ClassId} {A0 : Nat → Prop} {o : Int32 × ZS} (X : CallFix p m c cX7_checkSign 5 s args wsX7_checkSign RX7) (hret : zRi p l e ({ frames := 3, cells := 0, slots := 0, locals := 106 } : Room) s m args below meth c Q cX7_checkSign D y A0 .char o) {self53 : Nat → Int32 → ZS → Option (Int32 × ZS)} (hself53 : ∀ (x0 : Nat) (x3 : Int32) (S : ZS) (H : Heap) (locs : List Loc) (ls : Array Slot), self53 x0 x3 S = some o → zH D y A0 s H locs S → lv_has ls 5 [(0, .ref x0), (3, .int x3)] → W p l e ({ frames := 3, cells := 0, slots := 0, locals := 106 } : Room) s m args below meth c H locs 0 0 Q (F0 m 53 ls [])) {self62 : Nat → Int32 → Int32 → ZS → Option (Int32 × ZS)} (hself62 : ∀ (x0 : Nat) (x3 : Int32) (x4 : Int32) (S : ZS) (H : Heap) (locs : List Loc) (ls : Array Slot), self62 x0 x3 x4 S = some o → zH D y A0 s H locs S → lv_has ls 5 [(0, .ref x0), (3, .int x3), (4, .int x4)] → W p l e ({ frames := 3, cells := 0, slots := 0, locals := 106 } : Room) s m args below meth c H locs 0 0 Q (F0 m 62 ls [])) {x0 : Nat} {x3 : Int32} {x4 : Int32} {S : ZS} {H : Heap} {locs : List Loc} {ls : Array Slot} (hf : f_X7_checkSign_103 self53 self62 x0 x3 x4 S = some o) (hM : zH D y A0 s H locs S) (hl : lv_has ls 5 [(0, .ref x0), (3, .int x3), (4, .int x4)]) : W p l e ({ frames := 3, cells := 0, slots := 0, locals := 106 } : Room) s m args below meth c H locs 0 0 Q (F0 m 103 ls []) := by
  obtain ⟨hx, hb, hml, hown, hts⟩ := id X
  unfold f_X7_checkSign_103 at hf
  obtain ⟨v1, ev, hf⟩ := m_bndE hf
  refine lv_iinc (v := v1) (lv' := [(4, .int v1), (0, .ref x0), (3, .int x3)]) hx hb dX7_checkSign_103 hl (k := 2) rfl (by rw [ev]; rfl) (by decide) rfl (fun ls hl => ?_)
  clear ev
  refine lv_goto (tgt := 62) hx hb dX7_checkSign_106 (by decide) ?_
  exact hself62 x0 x3 v1 _ _ _ _ hf hM (lv_sub hl [1, 2, 0] rfl)
def f_X7_checkSign_62s (self53 : Nat → Int32 → ZS → Option (Int32 × ZS)) (self62 : Nat → Int32 → Int32 → ZS → Option (Int32 × ZS)) (x0 : Nat) (x3 : Int32) (x4 : Int32) (S : ZS) : Option (Int32 × ZS) :=
  m_if ((64 : Int32) ≤ x4) (
  m_bnd (x3 + (1 : Int32)) (fun v1 =>
  self53 x0 v1 S)
  ) (
  m_chk (x0 ∈ zL S ∧ zK S x0 = 7) (
  m_cal (zP S 1 x0) (fun b2 =>
  m_chk (b2 ∈ zL S ∧ zK S b2 = 0) (
  m_cal (f_X0_reaches b2 x3 x4 S) (fun o3 =>
  m_if (o3.1 = 0) (
  f_X7_checkSign_103 self53 self62 x0 x3 x4 o3.2
  ) (
  m_chk (x0 ∈ zL o3.2 ∧ zK o3.2 x0 = 7) (
  m_cal (zP o3.2 1 x0) (fun b4 =>
  m_bnd ((64 : Int32) * x4) (fun v5 =>
  m_bnd (x3 + v5) (fun v6 =>
  m_chk (x0 ∈ zL o3.2 ∧ zK o3.2 x0 = 7) (
  m_cal (f_X7_isSafe x0 b4 v6 o3.2) (fun o7 =>
  m_if (o7.1 = 0) (
  f_X7_checkSign_103 self53 self62 x0 x3 x4 o7.2
  ) (
  m_chk (vp_nar .char (43 : Int32) = (43 : Int32)) (some ((43 : Int32), o7.2))
  )))))))
  )))))
  )

set_option maxRecDepth 100000 in
set_option maxHeartbeats 4000000 in
theorem ws_X7_checkSign_62 {p : Program} {l : Launch} {e : Env} {s : State} {m : MethodId} {args : Array Value} {below : List Frame} {meth : Method} {c : Code} {Q : State → Prop} {D : va_G} {y : Nat → ClassId} {A0 : Nat → Prop} {o : Int32 × ZS} (X : CallFix p m c cX7_checkSign 5 s args wsX7_checkSign RX7) (hret : zRi p l e ({ frames := 3, cells := 0, slots := 0, locals := 106 } : Room) s m args below meth c Q cX7_checkSign D y A0 .char o) {self53 : Nat → Int32 → ZS → Option (Int32 × ZS)} (hself53 : ∀ (x0 : Nat) (x3 : Int32) (S : ZS) (H : Heap) (locs : List Loc) (ls : Array Slot), self53 x0 x3 S = some o → zH D y A0 s H locs S → lv_has ls 5 [(0, .ref x0), (3, .int x3)] → W p l e ({ frames := 3, cells := 0, slots := 0, locals := 106 } : Room) s m args below meth c H locs 0 0 Q (F0 m 53 ls [])) {self62 : Nat → Int32 → Int32 → ZS → Option (Int32 × ZS)} (hself62 : ∀ (x0 : Nat) (x3 : Int32) (x4 : Int32) (S : ZS) (H : Heap) (locs : List Loc) (ls : Array Slot), self62 x0 x3 x4 S = some o → zH D y A0 s H locs S → lv_has ls 5 [(0, .ref x0), (3, .int x3), (4, .int x4)] → W p l e ({ frames := 3, cells := 0, slots := 0, locals := 106 } : Room) s m args below meth c H locs 0 0 Q (F0 m 62 ls [])) {x0 : Nat} {x3 : Int32} {x4 : Int32} {S : ZS} {H : Heap} {locs : List Loc} {ls : Array Slot} (hf : f_X7_checkSign_62s self53 self62 x0 x3 x4 S = some o) (hM : zH D y A0 s H locs S) (hl : lv_has ls 5 [(0, .ref x0), (3, .int x3), (4, .int x4)]) : W p l e ({ frames := 3, cells := 0, slots := 0, locals := 106 } : Room) s m args below meth c H locs 0 0 Q (F0 m 62 ls []) := by
  obtain ⟨hx, hb, hml, hown, hts⟩ := id X
  unfold f_X7_checkSign_62s at hf
  refine lv_iload hx hb dX7_checkSign_62 (lv_at hl 2 rfl) ?_
  refine lv_bipush (v := (64 : Int32)) hx hb dX7_checkSign_64 (by decide) ?_
  refine lv_icmp_ge (tgt := 109) hx hb dX7_checkSign_66 (by decide) (fun cc1 => ?_) (fun cc1 => ?_)
  · replace hf := m_ifT hf cc1
    obtain ⟨v1, ev, hf⟩ := m_bndE hf
    refine lv_iinc (v := v1) (lv' := [(3, .int v1), (0, .ref x0), (4, .int x4)]) hx hb dX7_checkSign_109 hl (k := 1) rfl (by rw [ev]; rfl) (by decide) rfl (fun ls hl => ?_)
    clear ev
    refine lv_goto (tgt := 53) hx hb dX7_checkSign_112 (by decide) ?_
    exact hself53 x0 v1 _ _ _ _ hf hM (lv_sub hl [1, 0] rfl)
  · replace hf := m_ifF hf cc1
    refine lv_aload_n hx hb dX7_checkSign_69 rfl (lv_at hl 0 rfl) ?_
    obtain ⟨ca, hf⟩ := m_chkE hf
    refine z_get (k := 7) (j := 1) (C := RX7) (T := TX7) (N := 2) (fl := zf_7) (v := va_rf (zP S 1 x0)) X hw_X7_checkSign_7 hM rfl zc_7 ca (by decide) fl_X7_checkSign_7_1 rfl dX7_checkSign_70 ?_
    clear ca
    obtain ⟨b2, hb9, hf⟩ := m_calE hf
    refine z_topr hb9 ?_
    clear hb9
    refine lv_iload_n hx hb dX7_checkSign_73 rfl (lv_at hl 1 rfl) ?_
    refine lv_iload hx hb dX7_checkSign_74 (lv_at hl 2 rfl) ?_
    obtain ⟨ca, hf⟩ := m_chkE hf
    obtain ⟨o3, ho, hf⟩ := m_calE hf
    refine z_callVi (k := 0) (C := RX0) (T := TX0) (N := 7) (fl := zf_0) X hM rfl zc_0 ca (c_X0_reaches ho) gX7_checkSign_X0_reaches rfl ⟨rfl, rfl⟩ hd_X0_reaches ⟨Nat.le_of_ble_eq_true rfl, Nat.le_of_ble_eq_true rfl⟩ rfl hl.1 rfl (Nat.le_of_ble_eq_true rfl) dX7_checkSign_76 (fun H locs hM => ?_)
    clear ho
    refine lv_if_eq (tgt := 103) hx hb dX7_checkSign_79 (by decide) (fun cc1 => ?_) (fun cc1 => ?_)
    · replace hf := m_ifT hf cc1
      exact w_X7_checkSign_103 (x0 := x0) (x3 := x3) (x4 := x4) X hret hself53 hself62 hf hM (lv_sub hl [0, 1, 2] rfl)
    · replace hf := m_ifF hf cc1
      refine lv_aload_n hx hb dX7_checkSign_82 rfl (lv_at hl 0 rfl) ?_
      refine lv_aload_n hx hb dX7_checkSign_83 rfl (lv_at hl 0 rfl) ?_
      obtain ⟨ca, hf⟩ := m_chkE hf
      refine z_get (k := 7) (j := 1) (C := RX7) (T := TX7) (N := 2) (fl := zf_7) (v := va_rf (zP o3.2 1 x0)) X hw_X7_checkSign_7 hM rfl zc_7 ca (by decide) fl_X7_checkSign_7_1 rfl dX7_checkSign_84 ?_
      clear ca
      obtain ⟨b4, hb9, hf⟩ := m_calE hf
      refine z_topr hb9 ?_
      clear hb9
      refine lv_iload_n hx hb dX7_checkSign_87 rfl (lv_at hl 1 rfl) ?_
      refine lv_bipush (v := (64 : Int32)) hx hb dX7_checkSign_88 (by decide) ?_
      refine lv_iload hx hb dX7_checkSign_90 (lv_at hl 2 rfl) ?_
      refine lv_imul hx hb dX7_checkSign_92 ?_
      obtain ⟨v5, ev, hf⟩ := m_bndE hf
      refine m_top ev ?_
      clear ev
      refine lv_iadd hx hb dX7_checkSign_93 ?_
      obtain ⟨v6, ev, hf⟩ := m_bndE hf
      refine m_top ev ?_
      clear ev
      obtain ⟨ca, hf⟩ := m_chkE hf
      obtain ⟨o7, ho, hf⟩ := m_calE hf
      refine z_callVi (k := 7) (C := RX7) (T := TX7) (N := 2) (fl := zf_7) X hM rfl zc_7 ca (c_X7_isSafe ho) gX7_checkSign_X7_isSafe rfl ⟨rfl, rfl⟩ hd_X7_isSafe ⟨Nat.le_of_ble_eq_true rfl, Nat.le_of_ble_eq_true rfl⟩ rfl hl.1 rfl (Nat.le_of_ble_eq_true rfl) dX7_checkSign_94 (fun H locs hM => ?_)
      clear ho
      refine lv_if_eq (tgt := 103) hx hb dX7_checkSign_97 (by decide) (fun cc1 => ?_) (fun cc1 => ?_)
      · replace hf := m_ifT hf cc1
        exact w_X7_checkSign_103 (x0 := x0) (x3 := x3) (x4 := x4) X hret hself53 hself62 hf hM (lv_sub hl [0, 1, 2] rfl)
      · replace hf := m_ifF hf cc1
        refine lv_bipush (v := (43 : Int32)) hx hb dX7_checkSign_100 (by decide) ?_
        obtain ⟨cd, hf⟩ := m_chkE hf
        cases hf
        exact hret H locs _ ls hM (m_nc cd) dX7_checkSign_102
def f_X7_checkSign_62 (self53 : Nat → Int32 → ZS → Option (Int32 × ZS)) : Nat → Nat → Int32 → Int32 → ZS → Option (Int32 × ZS)
  | 0 => fun _ _ _ _ => none
  | n + 1 => f_X7_checkSign_62s self53 (f_X7_checkSign_62 self53 n)
theorem w_X7_checkSign_62 {p : Program} {l : Launch} {e : Env} {s : State} {m : MethodId} {args : Array Value} {below : List Frame} {meth : Method} {c : Code} {Q : State → Prop} {D : va_G} {y : Nat → ClassId} {A0 : Nat → Prop} {o : Int32 × ZS} (X : CallFix p m c cX7_checkSign 5 s args wsX7_checkSign RX7) (hret : zRi p l e ({ frames := 3, cells := 0, slots := 0, locals := 106 } : Room) s m args below meth c Q cX7_checkSign D y A0 .char o) {self53 : Nat → Int32 → ZS → Option (Int32 × ZS)} (hself53 : ∀ (x0 : Nat) (x3 : Int32) (S : ZS) (H : Heap) (locs : List Loc) (ls : Array Slot), self53 x0 x3 S = some o → zH D y A0 s H locs S → lv_has ls 5 [(0, .ref x0), (3, .int x3)] → W p l e ({ frames := 3, cells := 0, slots := 0, locals := 106 } : Room) s m args below meth c H locs 0 0 Q (F0 m 53 ls [])) (n : Nat) : ∀ (x0 : Nat) (x3 : Int32) (x4 : Int32) (S : ZS) (H : Heap) (locs : List Loc) (ls : Array Slot), f_X7_checkSign_62 self53 n x0 x3 x4 S = some o → zH D y A0 s H locs S → lv_has ls 5 [(0, .ref x0), (3, .int x3), (4, .int x4)] → W p l e ({ frames := 3, cells := 0, slots := 0, locals := 106 } : Room) s m args below meth c H locs 0 0 Q (F0 m 62 ls []) := by
  induction n with
  | zero => intro x0 x3 x4 S H locs ls hf; cases hf
  | succ n ih => intro x0 x3 x4 S H locs ls hf hM hl; exact ws_X7_checkSign_62 X hret hself53 (self62 := f_X7_checkSign_62 self53 n) ih hf hM hl
def f_X7_checkSign_53s (self53 : Nat → Int32 → ZS → Option (Int32 × ZS)) (x0 : Nat) (x3 : Int32) (S : ZS) : Option (Int32 × ZS) :=
  m_if ((64 : Int32) ≤ x3) (
  m_chk (vp_nar .char (35 : Int32) = (35 : Int32)) (some ((35 : Int32), S))
  ) (
  f_X7_checkSign_62 self53 mFuel x0 x3 (0 : Int32) S
  )

set_option maxRecDepth 100000 in
set_option maxHeartbeats 4000000 in
theorem ws_X7_checkSign_53 {p : Program} {l : Launch} {e : Env} {s : State} {m : MethodId} {args : Array Value} {below : List Frame} {meth : Method} {c : Code} {Q : State → Prop} {D : va_G} {y : Nat → ClassId} {A0 : Nat → Prop} {o : Int32 × ZS} (X : CallFix p m c cX7_checkSign 5 s args wsX7_checkSign RX7) (hret : zRi p l e ({ frames := 3, cells := 0, slots := 0, locals := 106 } : Room) s m args below meth c Q cX7_checkSign D y A0 .char o) {self53 : Nat → Int32 → ZS → Option (Int32 × ZS)} (hself53 : ∀ (x0 : Nat) (x3 : Int32) (S : ZS) (H : Heap) (locs : List Loc) (ls : Array Slot), self53 x0 x3 S = some o → zH D y A0 s H locs S → lv_has ls 5 [(0, .ref x0), (3, .int x3)] → W p l e ({ frames := 3, cells := 0, slots := 0, locals := 106 } : Room) s m args below meth c H locs 0 0 Q (F0 m 53 ls [])) {x0 : Nat} {x3 : Int32} {S : ZS} {H : Heap} {locs : List Loc} {ls : Array Slot} (hf : f_X7_checkSign_53s self53 x0 x3 S = some o) (hM : zH D y A0 s H locs S) (hl : lv_has ls 5 [(0, .ref x0), (3, .int x3)]) : W p l e ({ frames := 3, cells := 0, slots := 0, locals := 106 } : Room) s m args below meth c H locs 0 0 Q (F0 m 53 ls []) := by
  obtain ⟨hx, hb, hml, hown, hts⟩ := id X
  unfold f_X7_checkSign_53s at hf
  refine lv_iload_n hx hb dX7_checkSign_53 rfl (lv_at hl 1 rfl) ?_
  refine lv_bipush (v := (64 : Int32)) hx hb dX7_checkSign_54 (by decide) ?_
  refine lv_icmp_ge (tgt := 115) hx hb dX7_checkSign_56 (by decide) (fun cc1 => ?_) (fun cc1 => ?_)
  · replace hf := m_ifT hf cc1
    refine lv_bipush (v := (35 : Int32)) hx hb dX7_checkSign_115 (by decide) ?_
    obtain ⟨cd, hf⟩ := m_chkE hf
    cases hf
    exact hret H locs _ ls hM (m_nc cd) dX7_checkSign_117
  · replace hf := m_ifF hf cc1
    refine lv_iconst (v := (0 : Int32)) hx hb dX7_checkSign_59 (by decide) ?_
    refine lv_istore (lv' := [(4, .int (0 : Int32)), (0, .ref x0), (3, .int x3)]) hx hb dX7_checkSign_60 hl (by decide) rfl (fun ls hl => ?_)
    exact w_X7_checkSign_62 X hret hself53 _ x0 x3 (0 : Int32) _ _ _ _ hf hM (lv_sub hl [1, 2, 0] rfl)
def f_X7_checkSign_53 : Nat → Nat → Int32 → ZS → Option (Int32 × ZS)
  | 0 => fun _ _ _ => none
  | n + 1 => f_X7_checkSign_53s (f_X7_checkSign_53 n)
theorem w_X7_checkSign_53 {p : Program} {l : Launch} {e : Env} {s : State} {m : MethodId} {args : Array Value} {below : List Frame} {meth : Method} {c : Code} {Q : State → Prop} {D : va_G} {y : Nat → ClassId} {A0 : Nat → Prop} {o : Int32 × ZS} (X : CallFix p m c cX7_checkSign 5 s args wsX7_checkSign RX7) (hret : zRi p l e ({ frames := 3, cells := 0, slots := 0, locals := 106 } : Room) s m args below meth c Q cX7_checkSign D y A0 .char o) (n : Nat) : ∀ (x0 : Nat) (x3 : Int32) (S : ZS) (H : Heap) (locs : List Loc) (ls : Array Slot), f_X7_checkSign_53 n x0 x3 S = some o → zH D y A0 s H locs S → lv_has ls 5 [(0, .ref x0), (3, .int x3)] → W p l e ({ frames := 3, cells := 0, slots := 0, locals := 106 } : Room) s m args below meth c H locs 0 0 Q (F0 m 53 ls []) := by
  induction n with
  | zero => intro x0 x3 S H locs ls hf; cases hf
  | succ n ih => intro x0 x3 S H locs ls hf hM hl; exact ws_X7_checkSign_53 X hret (self53 := f_X7_checkSign_53 n) ih hf hM hl
def f_X7_checkSign_0 (x0 : Nat) (x1 : Nat) (x2 : Int32) (S : ZS) : Option (Int32 × ZS) :=
  m_chk (x0 ∈ zL S ∧ zK S x0 = 7) (
  m_cal (zP S 1 x0) (fun b1 =>
  m_chk (b1 ∈ zL S ∧ zK S b1 = 0) (
  m_cal (f_X0_copyFrom b1 x1 S) (fun o2 =>
  m_chk (x0 ∈ zL o2.2 ∧ zK o2.2 x0 = 7) (
  m_cal (zP o2.2 1 x0) (fun b3 =>
  m_chk (b3 ∈ zL o2.2 ∧ zK o2.2 b3 = 0) (
  m_cal (f_X0_play b3 x2 o2.2) (fun o4 =>
  m_chk (x0 ∈ zL o4.2 ∧ zK o4.2 x0 = 7) (
  m_cal (zP o4.2 1 x0) (fun b5 =>
  m_chk (x0 ∈ zL o4.2 ∧ zK o4.2 x0 = 7) (
  m_cal (zP o4.2 1 x0) (fun b6 =>
  m_chk (x0 ∈ zL o4.2 ∧ zK o4.2 x0 = 7) (
  m_cal (zP o4.2 1 x0) (fun b7 =>
  m_chk (b7 ∈ zL o4.2 ∧ zK o4.2 b7 = 0) (
  m_chk (b6 ∈ zL o4.2 ∧ zK o4.2 b6 = 0) (
  m_cal (f_X0_kingOf b6 (zI o4.2 3 b7) o4.2) (fun o8 =>
  m_chk (x0 ∈ zL o8.2 ∧ zK o8.2 x0 = 7) (
  m_cal (zP o8.2 1 x0) (fun b9 =>
  m_chk (b9 ∈ zL o8.2 ∧ zK o8.2 b9 = 0) (
  m_bnd ((1 : Int32) - (zI o8.2 3 b9)) (fun v10 =>
  m_chk (b5 ∈ zL o8.2 ∧ zK o8.2 b5 = 0) (
  m_cal (f_X0_attacked b5 o8.1 v10 o8.2) (fun o11 =>
  m_if (o11.1 = 0) (
  m_chk (vp_nar .char (0 : Int32) = (0 : Int32)) (some ((0 : Int32), o11.2))
  ) (
  f_X7_checkSign_53 mFuel x0 (0 : Int32) o11.2
  ))))))))))))))))))))))))

set_option maxRecDepth 100000 in
set_option maxHeartbeats 4000000 in
theorem w_X7_checkSign_0 {p : Program} {l : Launch} {e : Env} {s : State} {m : MethodId} {args : Array Value} {below : List Frame} {meth : Method} {c : Code} {Q : State → Prop} {D : va_G} {y : Nat → ClassId} {A0 : Nat → Prop} {o : Int32 × ZS} (X : CallFix p m c cX7_checkSign 5 s args wsX7_checkSign RX7) (hret : zRi p l e ({ frames := 3, cells := 0, slots := 0, locals := 106 } : Room) s m args below meth c Q cX7_checkSign D y A0 .char o) {x0 : Nat} {x1 : Nat} {x2 : Int32} {S : ZS} {H : Heap} {locs : List Loc} {ls : Array Slot} (hf : f_X7_checkSign_0 x0 x1 x2 S = some o) (hM : zH D y A0 s H locs S) (hl : lv_has ls 5 [(0, .ref x0), (1, .ref x1), (2, .int x2)]) : W p l e ({ frames := 3, cells := 0, slots := 0, locals := 106 } : Room) s m args below meth c H locs 0 0 Q (F0 m 0 ls []) := by
  obtain ⟨hx, hb, hml, hown, hts⟩ := id X
  unfold f_X7_checkSign_0 at hf
  refine lv_aload_n hx hb dX7_checkSign_0 rfl (lv_at hl 0 rfl) ?_
  obtain ⟨ca, hf⟩ := m_chkE hf
  refine z_get (k := 7) (j := 1) (C := RX7) (T := TX7) (N := 2) (fl := zf_7) (v := va_rf (zP S 1 x0)) X hw_X7_checkSign_7 hM rfl zc_7 ca (by decide) fl_X7_checkSign_7_1 rfl dX7_checkSign_1 ?_
  clear ca
  obtain ⟨b1, hb9, hf⟩ := m_calE hf
  refine z_topr hb9 ?_
  clear hb9
  refine lv_aload_n hx hb dX7_checkSign_4 rfl (lv_at hl 1 rfl) ?_
  obtain ⟨ca, hf⟩ := m_chkE hf
  obtain ⟨o2, ho, hf⟩ := m_calE hf
  refine z_callVv (k := 0) (C := RX0) (T := TX0) (N := 7) (fl := zf_0) X hM rfl zc_0 ca (c_X0_copyFrom ho) gX7_checkSign_X0_copyFrom rfl ⟨rfl, rfl⟩ hd_X0_copyFrom ⟨Nat.le_of_ble_eq_true rfl, Nat.le_of_ble_eq_true rfl⟩ rfl hl.1 rfl (Nat.le_of_ble_eq_true rfl) dX7_checkSign_5 (fun H locs hM => ?_)
  clear ho
  refine lv_aload_n hx hb dX7_checkSign_8 rfl (lv_at hl 0 rfl) ?_
  obtain ⟨ca, hf⟩ := m_chkE hf
  refine z_get (k := 7) (j := 1) (C := RX7) (T := TX7) (N := 2) (fl := zf_7) (v := va_rf (zP o2.2 1 x0)) X hw_X7_checkSign_7 hM rfl zc_7 ca (by decide) fl_X7_checkSign_7_1 rfl dX7_checkSign_9 ?_
  clear ca
  obtain ⟨b3, hb9, hf⟩ := m_calE hf
  refine z_topr hb9 ?_
  clear hb9
  refine lv_iload_n hx hb dX7_checkSign_12 rfl (lv_at hl 2 rfl) ?_
  obtain ⟨ca, hf⟩ := m_chkE hf
  obtain ⟨o4, ho, hf⟩ := m_calE hf
  refine z_callVv (k := 0) (C := RX0) (T := TX0) (N := 7) (fl := zf_0) X hM rfl zc_0 ca (c_X0_play ho) gX7_checkSign_X0_play rfl ⟨rfl, rfl⟩ hd_X0_play ⟨Nat.le_of_ble_eq_true rfl, Nat.le_of_ble_eq_true rfl⟩ rfl hl.1 rfl (Nat.le_of_ble_eq_true rfl) dX7_checkSign_13 (fun H locs hM => ?_)
  clear ho
  refine lv_aload_n hx hb dX7_checkSign_16 rfl (lv_at hl 0 rfl) ?_
  obtain ⟨ca, hf⟩ := m_chkE hf
  refine z_get (k := 7) (j := 1) (C := RX7) (T := TX7) (N := 2) (fl := zf_7) (v := va_rf (zP o4.2 1 x0)) X hw_X7_checkSign_7 hM rfl zc_7 ca (by decide) fl_X7_checkSign_7_1 rfl dX7_checkSign_17 ?_
  clear ca
  obtain ⟨b5, hb9, hf⟩ := m_calE hf
  refine z_topr hb9 ?_
  clear hb9
  refine lv_aload_n hx hb dX7_checkSign_20 rfl (lv_at hl 0 rfl) ?_
  obtain ⟨ca, hf⟩ := m_chkE hf
  refine z_get (k := 7) (j := 1) (C := RX7) (T := TX7) (N := 2) (fl := zf_7) (v := va_rf (zP o4.2 1 x0)) X hw_X7_checkSign_7 hM rfl zc_7 ca (by decide) fl_X7_checkSign_7_1 rfl dX7_checkSign_21 ?_
  clear ca
  obtain ⟨b6, hb9, hf⟩ := m_calE hf
  refine z_topr hb9 ?_
  clear hb9
  refine lv_aload_n hx hb dX7_checkSign_24 rfl (lv_at hl 0 rfl) ?_
  obtain ⟨ca, hf⟩ := m_chkE hf
  refine z_get (k := 7) (j := 1) (C := RX7) (T := TX7) (N := 2) (fl := zf_7) (v := va_rf (zP o4.2 1 x0)) X hw_X7_checkSign_7 hM rfl zc_7 ca (by decide) fl_X7_checkSign_7_1 rfl dX7_checkSign_25 ?_
  clear ca
  obtain ⟨b7, hb9, hf⟩ := m_calE hf
  refine z_topr hb9 ?_
  clear hb9
  obtain ⟨ca, hf⟩ := m_chkE hf
  refine z_get (k := 0) (j := 3) (C := RX0) (T := TX0) (N := 7) (fl := zf_0) (v := .int (zI o4.2 3 b7)) X hw_X7_checkSign_0 hM rfl zc_0 ca (by decide) fl_X7_checkSign_0_3 rfl dX7_checkSign_28 ?_
  clear ca
  obtain ⟨ca, hf⟩ := m_chkE hf
  obtain ⟨o8, ho, hf⟩ := m_calE hf
  refine z_callVi (k := 0) (C := RX0) (T := TX0) (N := 7) (fl := zf_0) X hM rfl zc_0 ca (c_X0_kingOf ho) gX7_checkSign_X0_kingOf rfl ⟨rfl, rfl⟩ hd_X0_kingOf ⟨Nat.le_of_ble_eq_true rfl, Nat.le_of_ble_eq_true rfl⟩ rfl hl.1 rfl (Nat.le_of_ble_eq_true rfl) dX7_checkSign_31 (fun H locs hM => ?_)
  clear ho
  refine lv_iconst (v := (1 : Int32)) hx hb dX7_checkSign_34 (by decide) ?_
  refine lv_aload_n hx hb dX7_checkSign_35 rfl (lv_at hl 0 rfl) ?_
  obtain ⟨ca, hf⟩ := m_chkE hf
  refine z_get (k := 7) (j := 1) (C := RX7) (T := TX7) (N := 2) (fl := zf_7) (v := va_rf (zP o8.2 1 x0)) X hw_X7_checkSign_7 hM rfl zc_7 ca (by decide) fl_X7_checkSign_7_1 rfl dX7_checkSign_36 ?_
  clear ca
  obtain ⟨b9, hb9, hf⟩ := m_calE hf
  refine z_topr hb9 ?_
  clear hb9
  obtain ⟨ca, hf⟩ := m_chkE hf
  refine z_get (k := 0) (j := 3) (C := RX0) (T := TX0) (N := 7) (fl := zf_0) (v := .int (zI o8.2 3 b9)) X hw_X7_checkSign_0 hM rfl zc_0 ca (by decide) fl_X7_checkSign_0_3 rfl dX7_checkSign_39 ?_
  clear ca
  refine lv_isub hx hb dX7_checkSign_42 ?_
  obtain ⟨v10, ev, hf⟩ := m_bndE hf
  refine m_top ev ?_
  clear ev
  obtain ⟨ca, hf⟩ := m_chkE hf
  obtain ⟨o11, ho, hf⟩ := m_calE hf
  refine z_callVi (k := 0) (C := RX0) (T := TX0) (N := 7) (fl := zf_0) X hM rfl zc_0 ca (c_X0_attacked ho) gX7_checkSign_X0_attacked rfl ⟨rfl, rfl⟩ hd_X0_attacked ⟨Nat.le_of_ble_eq_true rfl, Nat.le_of_ble_eq_true rfl⟩ rfl hl.1 rfl (Nat.le_of_ble_eq_true rfl) dX7_checkSign_43 (fun H locs hM => ?_)
  clear ho
  refine lv_if_ne (tgt := 51) hx hb dX7_checkSign_46 (by decide) (fun cc1 => ?_) (fun cc1 => ?_)
  · replace hf := m_ifF hf cc1
    refine lv_iconst (v := (0 : Int32)) hx hb dX7_checkSign_51 (by decide) ?_
    refine lv_istore_n (lv' := [(3, .int (0 : Int32)), (0, .ref x0), (1, .ref x1), (2, .int x2)]) hx hb dX7_checkSign_52 rfl hl (by decide) rfl (fun ls hl => ?_)
    exact w_X7_checkSign_53 X hret _ x0 (0 : Int32) _ _ _ _ hf hM (lv_sub hl [1, 0] rfl)
  · replace hf := m_ifT hf cc1
    refine lv_iconst (v := (0 : Int32)) hx hb dX7_checkSign_49 (by decide) ?_
    obtain ⟨cd, hf⟩ := m_chkE hf
    cases hf
    exact hret H locs _ ls hM (m_nc cd) dX7_checkSign_50
def f_X7_checkSign (x0 : Nat) (x1 : Nat) (x2 : Int32) (S : ZS) : Option (Int32 × ZS) := f_X7_checkSign_0 x0 x1 x2 S
theorem c_X7_checkSign {l : Launch} {D : va_G} {y : Nat → ClassId} {x0 : Nat} {x1 : Nat} {x2 : Int32} {S : ZS} {o : Int32 × ZS} (hf : f_X7_checkSign x0 x1 x2 S = some o) : zMi l yX7_checkSign wsX7_checkSign ({ frames := 3, cells := 0, slots := 0, locals := 106 } : Room) [.ref x0, .ref x1, .int x2] D y S o :=
  z_entryI (own := RX7) (cc := cX7_checkSign) (maxL := 5) (by decide) rfl rfl (Nat.le_of_ble_eq_true rfl) (fun p e s m args below meth c A0 Q H locs ls X hret hM hl => w_X7_checkSign_0 X hret hf hM (lv_sub hl [0, 1, 2] rfl))
theorem hd_X7_checkSign : yX7_checkSign.cls = RX7 ∧ yX7_checkSign.cls ≠ "java/lang/invoke/MethodHandle" ∧ yX7_checkSign.cls ≠ "java/lang/invoke/VarHandle" ∧ (parseMethodDescriptor yX7_checkSign.desc).map (fun d => d.parameters.length) = some 2 := by decide +kernel
theorem fl_X8_copyBare_8_1 : Cond.fieldLink RX8 21 "MoveTexts$SignReader" "row" "LMoveTexts$Row;" ∈ wsX8_copyBare := by decide +kernel
theorem hw_X8_copyBare_8 : ∀ w ∈ wsX80, w ∈ wsX8_copyBare := by decide +kernel
def g_X8_copyBare_73 (Pw : Int32 → ZS → Prop) (S : ZS) (C T : Nat) : Prop :=
  Pw 0 S

set_option maxRecDepth 100000 in
set_option maxHeartbeats 4000000 in
theorem w_X8_copyBare_73 {p : Program} {l : Launch} {e : Env} {s : State} {m : MethodId} {args : Array Value} {below : List Frame} {meth : Method} {c : Code} {Q : State → Prop} {D : va_G} {y : Nat → ClassId} {A0 : Nat → Prop} {kc kt : Nat} {Pw : Int32 → ZS → Prop} (X : CallFix p m c cX8_copyBare 6 s args wsX8_copyBare RX8) (hret : zQv p l e ({ frames := 2, cells := kc, slots := kt, locals := 82 } : Room) s m args below meth c Q cX8_copyBare D y A0 Pw) {S : ZS} {C T : Nat} {H : Heap} {locs : List Loc} {ls : Array Slot} (hf : g_X8_copyBare_73 Pw  S C T) (hCT : C ≤ kc ∧ T ≤ kt) (hM : zH D y A0 s H locs S) (hl : lv_has ls 6 []) : W p l e ({ frames := 2, cells := kc, slots := kt, locals := 82 } : Room) s m args below meth c H locs (kc - C) (kt - T) Q (F0 m 73 ls []) := by
  obtain ⟨hx, hb, hml, hown, hts⟩ := id X
  unfold g_X8_copyBare_73 at hf
  exact hret _ _ _ H locs _ ls hf hM dX8_copyBare_73
def g_X8_copyBare_67 (Pw : Int32 → ZS → Prop) (self11 : Nat → Nat → Int32 → Int32 → ZS → Nat → Nat → Prop) (x0 : Nat) (x1 : Nat) (x3 : Int32) (x4 : Int32) (S : ZS) (C T : Nat) : Prop :=
  m_bndP (x4 + (1 : Int32)) (fun v1 =>
  self11 x0 x1 x3 v1 S (C) (T))

set_option maxRecDepth 100000 in
set_option maxHeartbeats 4000000 in
theorem w_X8_copyBare_67 {p : Program} {l : Launch} {e : Env} {s : State} {m : MethodId} {args : Array Value} {below : List Frame} {meth : Method} {c : Code} {Q : State → Prop} {D : va_G} {y : Nat → ClassId} {A0 : Nat → Prop} {kc kt : Nat} {Pw : Int32 → ZS → Prop} (X : CallFix p m c cX8_copyBare 6 s args wsX8_copyBare RX8) (hret : zQv p l e ({ frames := 2, cells := kc, slots := kt, locals := 82 } : Room) s m args below meth c Q cX8_copyBare D y A0 Pw) {self11 : Nat → Nat → Int32 → Int32 → ZS → Nat → Nat → Prop} (hself11 : ∀ (x0 : Nat) (x1 : Nat) (x3 : Int32) (x4 : Int32) (S : ZS) (C T : Nat) (H : Heap) (locs : List Loc) (ls : Array Slot), self11 x0 x1 x3 x4 S C T → C ≤ kc ∧ T ≤ kt → zH D y A0 s H locs S → lv_has ls 6 [(0, .ref x0), (1, .ref x1), (3, .int x3), (4, .int x4)] → W p l e ({ frames := 2, cells := kc, slots := kt, locals := 82 } : Room) s m args below meth c H locs (kc - C) (kt - T) Q (F0 m 11 ls [])) {x0 : Nat} {x1 : Nat} {x3 : Int32} {x4 : Int32} {S : ZS} {C T : Nat} {H : Heap} {locs : List Loc} {ls : Array Slot} (hf : g_X8_copyBare_67 Pw self11 x0 x1 x3 x4 S C T) (hCT : C ≤ kc ∧ T ≤ kt) (hM : zH D y A0 s H locs S) (hl : lv_has ls 6 [(0, .ref x0), (1, .ref x1), (3, .int x3), (4, .int x4)]) : W p l e ({ frames := 2, cells := kc, slots := kt, locals := 82 } : Room) s m args below meth c H locs (kc - C) (kt - T) Q (F0 m 67 ls []) := by
  obtain ⟨hx, hb, hml, hown, hts⟩ := id X
  unfold g_X8_copyBare_67 at hf
  obtain ⟨v1, ev, hf⟩ := m_bndPE hf
  refine lv_iinc (v := v1) (lv' := [(4, .int v1), (0, .ref x0), (1, .ref x1), (3, .int x3)]) hx hb dX8_copyBare_67 hl (k := 3) rfl (by rw [ev]; rfl) (by decide) rfl (fun ls hl => ?_)
  clear ev
  refine lv_goto (tgt := 11) hx hb dX8_copyBare_70 (by decide) ?_
  exact hself11 x0 x1 x3 v1 _ _ _ _ _ _ hf hCT hM (lv_sub hl [1, 2, 3, 0] rfl)
def g_X8_copyBare_11s (Pw : Int32 → ZS → Prop) (self11 : Nat → Nat → Int32 → Int32 → ZS → Nat → Nat → Prop) (x0 : Nat) (x1 : Nat) (x3 : Int32) (x4 : Int32) (S : ZS) (C T : Nat) : Prop :=
  m_ifP (x3 ≤ x4) (
  g_X8_copyBare_73 Pw  S (C) (T)
  ) (
  m_chkP (x0 ∈ zL S ∧ zK S x0 = 8) (
  m_calP (zP S 1 x0) (fun b1 =>
  m_chkP (b1 ∈ zL S ∧ zK S b1 = 6) (
  m_calP (f_X6_size b1 S) (fun o2 =>
  m_ifP ((7 : Int32) < o2.1) (
  g_X8_copyBare_73 Pw  o2.2 (C) (T)
  ) (
  m_chkP (x1 ∈ zL o2.2 ∧ zK o2.2 x1 = 6) (
  m_calP (f_X6_at x1 x4 o2.2) (fun o3 =>
  m_ifP (o3.1 = (120 : Int32)) (
  g_X8_copyBare_67 Pw self11 x0 x1 x3 x4 o3.2 (C) (T)
  ) (
  m_ifP (o3.1 = (43 : Int32)) (
  g_X8_copyBare_67 Pw self11 x0 x1 x3 x4 o3.2 (C) (T)
  ) (
  m_ifP (o3.1 = (35 : Int32)) (
  g_X8_copyBare_67 Pw self11 x0 x1 x3 x4 o3.2 (C) (T)
  ) (
  m_chkP (x0 ∈ zL o3.2 ∧ zK o3.2 x0 = 8) (
  m_calP (zP o3.2 1 x0) (fun b4 =>
  m_chkP (b4 ∈ zL o3.2 ∧ zK o3.2 b4 = 6) (
  m_gal (C) (T) (fun mc ms Pw => g_X6_put b4 o3.1 o3.2 mc ms Pw) (fun r6 S7 C8 T9 =>
  g_X8_copyBare_67 Pw self11 x0 x1 x3 x4 S7 (C8) (T9)))))
  )
  )
  )))
  )))))
  )

set_option maxRecDepth 100000 in
set_option maxHeartbeats 4000000 in
theorem ws_X8_copyBare_11 {p : Program} {l : Launch} {e : Env} {s : State} {m : MethodId} {args : Array Value} {below : List Frame} {meth : Method} {c : Code} {Q : State → Prop} {D : va_G} {y : Nat → ClassId} {A0 : Nat → Prop} {kc kt : Nat} {Pw : Int32 → ZS → Prop} (X : CallFix p m c cX8_copyBare 6 s args wsX8_copyBare RX8) (hret : zQv p l e ({ frames := 2, cells := kc, slots := kt, locals := 82 } : Room) s m args below meth c Q cX8_copyBare D y A0 Pw) {self11 : Nat → Nat → Int32 → Int32 → ZS → Nat → Nat → Prop} (hself11 : ∀ (x0 : Nat) (x1 : Nat) (x3 : Int32) (x4 : Int32) (S : ZS) (C T : Nat) (H : Heap) (locs : List Loc) (ls : Array Slot), self11 x0 x1 x3 x4 S C T → C ≤ kc ∧ T ≤ kt → zH D y A0 s H locs S → lv_has ls 6 [(0, .ref x0), (1, .ref x1), (3, .int x3), (4, .int x4)] → W p l e ({ frames := 2, cells := kc, slots := kt, locals := 82 } : Room) s m args below meth c H locs (kc - C) (kt - T) Q (F0 m 11 ls [])) {x0 : Nat} {x1 : Nat} {x3 : Int32} {x4 : Int32} {S : ZS} {C T : Nat} {H : Heap} {locs : List Loc} {ls : Array Slot} (hf : g_X8_copyBare_11s Pw self11 x0 x1 x3 x4 S C T) (hCT : C ≤ kc ∧ T ≤ kt) (hM : zH D y A0 s H locs S) (hl : lv_has ls 6 [(0, .ref x0), (1, .ref x1), (3, .int x3), (4, .int x4)]) : W p l e ({ frames := 2, cells := kc, slots := kt, locals := 82 } : Room) s m args below meth c H locs (kc - C) (kt - T) Q (F0 m 11 ls []) := by
  obtain ⟨hx, hb, hml, hown, hts⟩ := id X
  unfold g_X8_copyBare_11s at hf
  refine lv_iload hx hb dX8_copyBare_11 (lv_at hl 3 rfl) ?_
  refine lv_iload_n hx hb dX8_copyBare_13 rfl (lv_at hl 2 rfl) ?_
  refine lv_icmp_ge (tgt := 73) hx hb dX8_copyBare_14 (by decide) (fun cc1 => ?_) (fun cc1 => ?_)
  · replace hf := m_ifPT hf cc1
    exact w_X8_copyBare_73 X hret hf hCT hM (lv_sub hl [] rfl)
  · replace hf := m_ifPF hf cc1
    refine lv_aload_n hx hb dX8_copyBare_17 rfl (lv_at hl 0 rfl) ?_
    obtain ⟨ca, hf⟩ := m_chkPE hf
    refine z_get (k := 8) (j := 1) (C := RX8) (T := TX8) (N := 12) (fl := zf_8) (v := va_rf (zP S 1 x0)) X hw_X8_copyBare_8 hM rfl zc_8 ca (by decide) fl_X8_copyBare_8_1 rfl dX8_copyBare_18 ?_
    clear ca
    obtain ⟨b1, hb9, hf⟩ := m_calPE hf
    refine z_topr hb9 ?_
    clear hb9
    obtain ⟨ca, hf⟩ := m_chkPE hf
    obtain ⟨o2, ho, hf⟩ := m_calPE hf
    refine z_gcallVi (k := 6) (C := RX6) (T := TX6) (N := 2) (fl := zf_6) X hM rfl zc_6 ca (c_X6_size ho) gX8_copyBare_X6_size rfl ⟨rfl, rfl⟩ hd_X6_size ⟨Nat.le_of_ble_eq_true rfl, Nat.le_of_ble_eq_true rfl⟩ rfl hl.1 rfl ⟨Nat.sub_le _ _, Nat.sub_le _ _⟩ (Nat.le_of_ble_eq_true rfl) dX8_copyBare_21 (fun H locs hM => ?_)
    clear ho
    refine lv_bipush (v := (7 : Int32)) hx hb dX8_copyBare_24 (by decide) ?_
    refine lv_icmp_gt (tgt := 73) hx hb dX8_copyBare_26 (by decide) (fun cc1 => ?_) (fun cc1 => ?_)
    · replace hf := m_ifPT hf cc1
      exact w_X8_copyBare_73 X hret hf hCT hM (lv_sub hl [] rfl)
    · replace hf := m_ifPF hf cc1
      refine lv_aload_n hx hb dX8_copyBare_29 rfl (lv_at hl 1 rfl) ?_
      refine lv_iload hx hb dX8_copyBare_30 (lv_at hl 3 rfl) ?_
      obtain ⟨ca, hf⟩ := m_chkPE hf
      obtain ⟨o3, ho, hf⟩ := m_calPE hf
      refine z_gcallVi (k := 6) (C := RX6) (T := TX6) (N := 2) (fl := zf_6) X hM rfl zc_6 ca (c_X6_at ho) gX8_copyBare_X6_at rfl ⟨rfl, rfl⟩ hd_X6_at ⟨Nat.le_of_ble_eq_true rfl, Nat.le_of_ble_eq_true rfl⟩ rfl hl.1 rfl ⟨Nat.sub_le _ _, Nat.sub_le _ _⟩ (Nat.le_of_ble_eq_true rfl) dX8_copyBare_32 (fun H locs hM => ?_)
      clear ho
      refine lv_istore (lv' := [(5, .int o3.1), (0, .ref x0), (1, .ref x1), (3, .int x3), (4, .int x4)]) hx hb dX8_copyBare_35 hl (by decide) rfl (fun ls hl => ?_)
      refine lv_iload hx hb dX8_copyBare_37 (lv_at hl 0 rfl) ?_
      refine lv_bipush (v := (120 : Int32)) hx hb dX8_copyBare_39 (by decide) ?_
      refine lv_icmp_eq (tgt := 67) hx hb dX8_copyBare_41 (by decide) (fun cc1 => ?_) (fun cc1 => ?_)
      · replace hf := m_ifPT hf cc1
        exact w_X8_copyBare_67 (x0 := x0) (x1 := x1) (x3 := x3) (x4 := x4) X hret hself11 hf hCT hM (lv_sub hl [1, 2, 3, 4] rfl)
      · replace hf := m_ifPF hf cc1
        refine lv_iload hx hb dX8_copyBare_44 (lv_at hl 0 rfl) ?_
        refine lv_bipush (v := (43 : Int32)) hx hb dX8_copyBare_46 (by decide) ?_
        refine lv_icmp_eq (tgt := 67) hx hb dX8_copyBare_48 (by decide) (fun cc1 => ?_) (fun cc1 => ?_)
        · replace hf := m_ifPT hf cc1
          exact w_X8_copyBare_67 (x0 := x0) (x1 := x1) (x3 := x3) (x4 := x4) X hret hself11 hf hCT hM (lv_sub hl [1, 2, 3, 4] rfl)
        · replace hf := m_ifPF hf cc1
          refine lv_iload hx hb dX8_copyBare_51 (lv_at hl 0 rfl) ?_
          refine lv_bipush (v := (35 : Int32)) hx hb dX8_copyBare_53 (by decide) ?_
          refine lv_icmp_eq (tgt := 67) hx hb dX8_copyBare_55 (by decide) (fun cc1 => ?_) (fun cc1 => ?_)
          · replace hf := m_ifPT hf cc1
            exact w_X8_copyBare_67 (x0 := x0) (x1 := x1) (x3 := x3) (x4 := x4) X hret hself11 hf hCT hM (lv_sub hl [1, 2, 3, 4] rfl)
          · replace hf := m_ifPF hf cc1
            refine lv_aload_n hx hb dX8_copyBare_58 rfl (lv_at hl 1 rfl) ?_
            obtain ⟨ca, hf⟩ := m_chkPE hf
            refine z_get (k := 8) (j := 1) (C := RX8) (T := TX8) (N := 12) (fl := zf_8) (v := va_rf (zP o3.2 1 x0)) X hw_X8_copyBare_8 hM rfl zc_8 ca (by decide) fl_X8_copyBare_8_1 rfl dX8_copyBare_59 ?_
            clear ca
            obtain ⟨b4, hb9, hf⟩ := m_calPE hf
            refine z_topr hb9 ?_
            clear hb9
            refine lv_iload hx hb dX8_copyBare_62 (lv_at hl 0 rfl) ?_
            obtain ⟨ca, hf⟩ := m_chkPE hf
            obtain ⟨mc, ms, hcm, ho⟩ := m_galE hf
            refine z_wcallVv (k := 6) (C := RX6) (T := TX6) (N := 2) (fl := zf_6) X hM rfl zc_6 ca (c_X6_put ho) gX8_copyBare_X6_put rfl ⟨rfl, rfl⟩ ⟨by show kc - (C) + mc ≤ kc; omega, by show kt - (T) + ms ≤ kt; omega⟩ hd_X6_put ⟨Nat.le_of_ble_eq_true rfl, Nat.le_of_ble_eq_true rfl⟩ rfl hl.1 rfl (Nat.le_of_ble_eq_true rfl) dX8_copyBare_64 (fun S7 H locs hf hM => ?_)
            refine z_eqCS (c2 := kc - (C - mc)) (t2 := kt - (T - ms)) (by omega) (by omega) ?_
            replace hCT : C - mc ≤ kc ∧ T - ms ≤ kt := by omega
            generalize C - mc = C8 at hf hCT ⊢
            generalize T - ms = T9 at hf hCT ⊢
            clear ho hcm
            exact w_X8_copyBare_67 (x0 := x0) (x1 := x1) (x3 := x3) (x4 := x4) X hret hself11 hf hCT hM (lv_sub hl [1, 2, 3, 4] rfl)
def g_X8_copyBare_11 (Pw : Int32 → ZS → Prop) : Nat → Nat → Nat → Int32 → Int32 → ZS → Nat → Nat → Prop
  | 0 => fun _ _ _ _ _ _ _ => False
  | n + 1 => g_X8_copyBare_11s Pw (g_X8_copyBare_11 Pw n)
theorem w_X8_copyBare_11 {p : Program} {l : Launch} {e : Env} {s : State} {m : MethodId} {args : Array Value} {below : List Frame} {meth : Method} {c : Code} {Q : State → Prop} {D : va_G} {y : Nat → ClassId} {A0 : Nat → Prop} {kc kt : Nat} {Pw : Int32 → ZS → Prop} (X : CallFix p m c cX8_copyBare 6 s args wsX8_copyBare RX8) (hret : zQv p l e ({ frames := 2, cells := kc, slots := kt, locals := 82 } : Room) s m args below meth c Q cX8_copyBare D y A0 Pw) (n : Nat) : ∀ (x0 : Nat) (x1 : Nat) (x3 : Int32) (x4 : Int32) (S : ZS) (C T : Nat) (H : Heap) (locs : List Loc) (ls : Array Slot), g_X8_copyBare_11 Pw n x0 x1 x3 x4 S C T → C ≤ kc ∧ T ≤ kt → zH D y A0 s H locs S → lv_has ls 6 [(0, .ref x0), (1, .ref x1), (3, .int x3), (4, .int x4)] → W p l e ({ frames := 2, cells := kc, slots := kt, locals := 82 } : Room) s m args below meth c H locs (kc - C) (kt - T) Q (F0 m 11 ls []) := by
  induction n with
  | zero => intro x0 x1 x3 x4 S C T H locs ls hf; exact absurd hf id
  | succ n ih => intro x0 x1 x3 x4 S C T H locs ls hf hCT hM hl; exact ws_X8_copyBare_11 X hret (self11 := g_X8_copyBare_11 Pw n) ih hf hCT hM hl
def g_X8_copyBare_0 (Pw : Int32 → ZS → Prop) (x0 : Nat) (x1 : Nat) (x2 : Int32) (x3 : Int32) (S : ZS) (C T : Nat) : Prop :=
  m_chkP (x0 ∈ zL S ∧ zK S x0 = 8) (
  m_calP (zP S 1 x0) (fun b1 =>
  m_chkP (b1 ∈ zL S ∧ zK S b1 = 6) (
  m_calP (f_X6_keep b1 (0 : Int32) S) (fun o2 =>
  g_X8_copyBare_11 Pw mFuel x0 x1 x3 x2 o2.2 (C) (T)))))

set_option maxRecDepth 100000 in
set_option maxHeartbeats 4000000 in
theorem w_X8_copyBare_0 {p : Program} {l : Launch} {e : Env} {s : State} {m : MethodId} {args : Array Value} {below : List Frame} {meth : Method} {c : Code} {Q : State → Prop} {D : va_G} {y : Nat → ClassId} {A0 : Nat → Prop} {kc kt : Nat} {Pw : Int32 → ZS → Prop} (X : CallFix p m c cX8_copyBare 6 s args wsX8_copyBare RX8) (hret : zQv p l e ({ frames := 2, cells := kc, slots := kt, locals := 82 } : Room) s m args below meth c Q cX8_copyBare D y A0 Pw) {x0 : Nat} {x1 : Nat} {x2 : Int32} {x3 : Int32} {S : ZS} {C T : Nat} {H : Heap} {locs : List Loc} {ls : Array Slot} (hf : g_X8_copyBare_0 Pw x0 x1 x2 x3 S C T) (hCT : C ≤ kc ∧ T ≤ kt) (hM : zH D y A0 s H locs S) (hl : lv_has ls 6 [(0, .ref x0), (1, .ref x1), (2, .int x2), (3, .int x3)]) : W p l e ({ frames := 2, cells := kc, slots := kt, locals := 82 } : Room) s m args below meth c H locs (kc - C) (kt - T) Q (F0 m 0 ls []) := by
  obtain ⟨hx, hb, hml, hown, hts⟩ := id X
  unfold g_X8_copyBare_0 at hf
  refine lv_aload_n hx hb dX8_copyBare_0 rfl (lv_at hl 0 rfl) ?_
  obtain ⟨ca, hf⟩ := m_chkPE hf
  refine z_get (k := 8) (j := 1) (C := RX8) (T := TX8) (N := 12) (fl := zf_8) (v := va_rf (zP S 1 x0)) X hw_X8_copyBare_8 hM rfl zc_8 ca (by decide) fl_X8_copyBare_8_1 rfl dX8_copyBare_1 ?_
  clear ca
  obtain ⟨b1, hb9, hf⟩ := m_calPE hf
  refine z_topr hb9 ?_
  clear hb9
  refine lv_iconst (v := (0 : Int32)) hx hb dX8_copyBare_4 (by decide) ?_
  obtain ⟨ca, hf⟩ := m_chkPE hf
  obtain ⟨o2, ho, hf⟩ := m_calPE hf
  refine z_gcallVv (k := 6) (C := RX6) (T := TX6) (N := 2) (fl := zf_6) X hM rfl zc_6 ca (c_X6_keep ho) gX8_copyBare_X6_keep rfl ⟨rfl, rfl⟩ hd_X6_keep ⟨Nat.le_of_ble_eq_true rfl, Nat.le_of_ble_eq_true rfl⟩ rfl hl.1 rfl ⟨Nat.sub_le _ _, Nat.sub_le _ _⟩ (Nat.le_of_ble_eq_true rfl) dX8_copyBare_5 (fun H locs hM => ?_)
  clear ho
  refine lv_iload_n hx hb dX8_copyBare_8 rfl (lv_at hl 2 rfl) ?_
  refine lv_istore (lv' := [(4, .int x2), (0, .ref x0), (1, .ref x1), (2, .int x2), (3, .int x3)]) hx hb dX8_copyBare_9 hl (by decide) rfl (fun ls hl => ?_)
  exact w_X8_copyBare_11 X hret _ x0 x1 x3 x2 _ _ _ _ _ _ hf hCT hM (lv_sub hl [1, 2, 4, 0] rfl)
def g_X8_copyBare (x0 : Nat) (x1 : Nat) (x2 : Int32) (x3 : Int32) (S : ZS) (mc ms : Nat) (Pw : Int32 → ZS → Prop) : Prop := g_X8_copyBare_0 Pw x0 x1 x2 x3 S mc ms
theorem c_X8_copyBare {l : Launch} {D : va_G} {y : Nat → ClassId} {x0 : Nat} {x1 : Nat} {x2 : Int32} {x3 : Int32} {S : ZS} {kc kt : Nat} {Pw : Int32 → ZS → Prop} (hf : g_X8_copyBare x0 x1 x2 x3 S kc kt Pw) : zWv l yX8_copyBare wsX8_copyBare ({ frames := 2, cells := kc, slots := kt, locals := 82 } : Room) [.ref x0, .ref x1, .int x2, .int x3] D y S kc kt Pw :=
  z_wentV (own := RX8) (cc := cX8_copyBare) (maxL := 6) (by decide) rfl rfl (Nat.le_of_ble_eq_true rfl) ⟨rfl, rfl⟩ (fun p e s m args below meth c A0 Q H locs ls X hret hM hl => w_X8_copyBare_0 X hret hf ⟨Nat.le_refl _, Nat.le_refl _⟩ hM (lv_sub hl [0, 1, 2, 3] rfl))
theorem hd_X8_copyBare : yX8_copyBare.cls = RX8 ∧ yX8_copyBare.cls ≠ "java/lang/invoke/MethodHandle" ∧ yX8_copyBare.cls ≠ "java/lang/invoke/VarHandle" ∧ (parseMethodDescriptor yX8_copyBare.desc).map (fun d => d.parameters.length) = some 3 := by decide +kernel
theorem fl_X8_parseApart_8_1 : Cond.fieldLink RX8 21 "MoveTexts$SignReader" "row" "LMoveTexts$Row;" ∈ wsX8_parseApart := by decide +kernel
theorem fl_X8_parseApart_8_3 : Cond.fieldLink RX8 93 "MoveTexts$SignReader" "kind" "I" ∈ wsX8_parseApart := by decide +kernel
theorem fl_X8_parseApart_8_4 : Cond.fieldLink RX8 107 "MoveTexts$SignReader" "file" "I" ∈ wsX8_parseApart := by decide +kernel
theorem fl_X8_parseApart_8_5 : Cond.fieldLink RX8 110 "MoveTexts$SignReader" "rank" "I" ∈ wsX8_parseApart := by decide +kernel
theorem hw_X8_parseApart_8 : ∀ w ∈ wsX80, w ∈ wsX8_parseApart := by decide +kernel
theorem nn_X8_parseApart_113 : ((RX8, 113, yX11_isFile, "MoveTexts") ∈ zNW ∧ Cond.initialized yX11_isFile.cls ∈ wsX8_parseApart) ∧ Cond.static yX11_isFile ∈ wsX8_parseApart := by decide +kernel
theorem nn_X8_parseApart_117 : ((RX8, 117, yX11_isRank, "MoveTexts") ∈ zNW ∧ Cond.initialized yX11_isRank.cls ∈ wsX8_parseApart) ∧ Cond.static yX11_isRank ∈ wsX8_parseApart := by decide +kernel
def f_X8_parseApart_104 (t0 : Int32) (S : ZS) : Option (Int32 × ZS) :=
  m_chk (vp_nar .boolean t0 = t0) (some (t0, S))

set_option maxRecDepth 100000 in
set_option maxHeartbeats 4000000 in
theorem w_X8_parseApart_104 {p : Program} {l : Launch} {e : Env} {s : State} {m : MethodId} {args : Array Value} {below : List Frame} {meth : Method} {c : Code} {Q : State → Prop} {D : va_G} {y : Nat → ClassId} {A0 : Nat → Prop} {o : Int32 × ZS} (X : CallFix p m c cX8_parseApart 4 s args wsX8_parseApart RX8) (hret : zRi p l e ({ frames := 1, cells := 0, slots := 0, locals := 21 } : Room) s m args below meth c Q cX8_parseApart D y A0 .boolean o) {t0 : Int32} {S : ZS} {H : Heap} {locs : List Loc} {ls : Array Slot} (hf : f_X8_parseApart_104 t0 S = some o) (hM : zH D y A0 s H locs S) (hl : lv_has ls 4 []) : W p l e ({ frames := 1, cells := 0, slots := 0, locals := 21 } : Room) s m args below meth c H locs 0 0 Q (F0 m 104 ls [.int t0]) := by
  obtain ⟨hx, hb, hml, hown, hts⟩ := id X
  unfold f_X8_parseApart_104 at hf
  obtain ⟨cd, hf⟩ := m_chkE hf
  cases hf
  exact hret H locs _ ls hM (m_nb cd) dX8_parseApart_104
def f_X8_parseApart_94 (x2 : Int32) (x3 : Int32) (S : ZS) : Option (Int32 × ZS) :=
  m_if (x3 = x2) (
  f_X8_parseApart_104 (1 : Int32) S
  ) (
  f_X8_parseApart_104 (0 : Int32) S
  )

set_option maxRecDepth 100000 in
set_option maxHeartbeats 4000000 in
theorem w_X8_parseApart_94 {p : Program} {l : Launch} {e : Env} {s : State} {m : MethodId} {args : Array Value} {below : List Frame} {meth : Method} {c : Code} {Q : State → Prop} {D : va_G} {y : Nat → ClassId} {A0 : Nat → Prop} {o : Int32 × ZS} (X : CallFix p m c cX8_parseApart 4 s args wsX8_parseApart RX8) (hret : zRi p l e ({ frames := 1, cells := 0, slots := 0, locals := 21 } : Room) s m args below meth c Q cX8_parseApart D y A0 .boolean o) {x2 : Int32} {x3 : Int32} {S : ZS} {H : Heap} {locs : List Loc} {ls : Array Slot} (hf : f_X8_parseApart_94 x2 x3 S = some o) (hM : zH D y A0 s H locs S) (hl : lv_has ls 4 [(2, .int x2), (3, .int x3)]) : W p l e ({ frames := 1, cells := 0, slots := 0, locals := 21 } : Room) s m args below meth c H locs 0 0 Q (F0 m 94 ls []) := by
  obtain ⟨hx, hb, hml, hown, hts⟩ := id X
  unfold f_X8_parseApart_94 at hf
  refine lv_iload_n hx hb dX8_parseApart_94 rfl (lv_at hl 1 rfl) ?_
  refine lv_iload_n hx hb dX8_parseApart_95 rfl (lv_at hl 0 rfl) ?_
  refine lv_icmp_ne (tgt := 103) hx hb dX8_parseApart_96 (by decide) (fun cc1 => ?_) (fun cc1 => ?_)
  · replace hf := m_ifF hf cc1
    refine lv_iconst (v := (0 : Int32)) hx hb dX8_parseApart_103 (by decide) ?_
    exact w_X8_parseApart_104 (t0 := (0 : Int32)) X hret hf hM (lv_sub hl [] rfl)
  · replace hf := m_ifT hf cc1
    refine lv_iconst (v := (1 : Int32)) hx hb dX8_parseApart_99 (by decide) ?_
    refine lv_goto (tgt := 104) hx hb dX8_parseApart_100 (by decide) ?_
    exact w_X8_parseApart_104 (t0 := (1 : Int32)) X hret hf hM (lv_sub hl [] rfl)
def f_X8_parseApart_49 (x0 : Nat) (x2 : Int32) (x3 : Int32) (S : ZS) : Option (Int32 × ZS) :=
  m_if (x2 ≤ x3) (
  f_X8_parseApart_94 x2 x3 S
  ) (
  m_chk (x0 ∈ zL S ∧ zK S x0 = 8) (
  m_if ((zI S 3 x0) = (1 : Int32)) (
  f_X8_parseApart_94 x2 x3 S
  ) (
  m_chk (x0 ∈ zL S ∧ zK S x0 = 8) (
  m_cal (zP S 1 x0) (fun b1 =>
  m_chk (b1 ∈ zL S ∧ zK S b1 = 6) (
  m_cal (f_X6_at b1 x3 S) (fun o2 =>
  m_cal (f_X11_isRank o2.1 o2.2) (fun o3 =>
  m_if (o3.1 = 0) (
  f_X8_parseApart_94 x2 x3 o3.2
  ) (
  m_chk (x0 ∈ zL o3.2 ∧ zK o3.2 x0 = 8) (
  m_cal (zP o3.2 1 x0) (fun b4 =>
  m_chk (b4 ∈ zL o3.2 ∧ zK o3.2 b4 = 6) (
  m_cal (f_X6_at b4 x3 o3.2) (fun o5 =>
  m_bnd (o5.1 - (49 : Int32)) (fun v6 =>
  m_chk (x0 ∈ zL o5.2 ∧ zK o5.2 x0 = 8) (
  m_bnd (zsI o5.2 5 x0 v6) (fun S7 =>
  m_bnd (x3 + (1 : Int32)) (fun v8 =>
  f_X8_parseApart_94 x2 v8 S7))))))))
  ))))))
  ))
  )

set_option maxRecDepth 100000 in
set_option maxHeartbeats 4000000 in
theorem w_X8_parseApart_49 {p : Program} {l : Launch} {e : Env} {s : State} {m : MethodId} {args : Array Value} {below : List Frame} {meth : Method} {c : Code} {Q : State → Prop} {D : va_G} {y : Nat → ClassId} {A0 : Nat → Prop} {o : Int32 × ZS} (X : CallFix p m c cX8_parseApart 4 s args wsX8_parseApart RX8) (hret : zRi p l e ({ frames := 1, cells := 0, slots := 0, locals := 21 } : Room) s m args below meth c Q cX8_parseApart D y A0 .boolean o) {x0 : Nat} {x2 : Int32} {x3 : Int32} {S : ZS} {H : Heap} {locs : List Loc} {ls : Array Slot} (hf : f_X8_parseApart_49 x0 x2 x3 S = some o) (hM : zH D y A0 s H locs S) (hl : lv_has ls 4 [(0, .ref x0), (2, .int x2), (3, .int x3)]) : W p l e ({ frames := 1, cells := 0, slots := 0, locals := 21 } : Room) s m args below meth c H locs 0 0 Q (F0 m 49 ls []) := by
  obtain ⟨hx, hb, hml, hown, hts⟩ := id X
  unfold f_X8_parseApart_49 at hf
  refine lv_iload_n hx hb dX8_parseApart_49 rfl (lv_at hl 2 rfl) ?_
  refine lv_iload_n hx hb dX8_parseApart_50 rfl (lv_at hl 1 rfl) ?_
  refine lv_icmp_ge (tgt := 94) hx hb dX8_parseApart_51 (by decide) (fun cc1 => ?_) (fun cc1 => ?_)
  · replace hf := m_ifT hf cc1
    exact w_X8_parseApart_94 (x2 := x2) (x3 := x3) X hret hf hM (lv_sub hl [1, 2] rfl)
  · replace hf := m_ifF hf cc1
    refine lv_aload_n hx hb dX8_parseApart_54 rfl (lv_at hl 0 rfl) ?_
    obtain ⟨ca, hf⟩ := m_chkE hf
    refine z_get (k := 8) (j := 3) (C := RX8) (T := TX8) (N := 12) (fl := zf_8) (v := .int (zI S 3 x0)) X hw_X8_parseApart_8 hM rfl zc_8 ca (by decide) fl_X8_parseApart_8_3 rfl dX8_parseApart_55 ?_
    clear ca
    refine lv_iconst (v := (1 : Int32)) hx hb dX8_parseApart_58 (by decide) ?_
    refine lv_icmp_eq (tgt := 94) hx hb dX8_parseApart_59 (by decide) (fun cc1 => ?_) (fun cc1 => ?_)
    · replace hf := m_ifT hf cc1
      exact w_X8_parseApart_94 (x2 := x2) (x3 := x3) X hret hf hM (lv_sub hl [1, 2] rfl)
    · replace hf := m_ifF hf cc1
      refine lv_aload_n hx hb dX8_parseApart_62 rfl (lv_at hl 0 rfl) ?_
      obtain ⟨ca, hf⟩ := m_chkE hf
      refine z_get (k := 8) (j := 1) (C := RX8) (T := TX8) (N := 12) (fl := zf_8) (v := va_rf (zP S 1 x0)) X hw_X8_parseApart_8 hM rfl zc_8 ca (by decide) fl_X8_parseApart_8_1 rfl dX8_parseApart_63 ?_
      clear ca
      obtain ⟨b1, hb9, hf⟩ := m_calE hf
      refine z_topr hb9 ?_
      clear hb9
      refine lv_iload_n hx hb dX8_parseApart_66 rfl (lv_at hl 2 rfl) ?_
      obtain ⟨ca, hf⟩ := m_chkE hf
      obtain ⟨o2, ho, hf⟩ := m_calE hf
      refine z_callVi (k := 6) (C := RX6) (T := TX6) (N := 2) (fl := zf_6) X hM rfl zc_6 ca (c_X6_at ho) gX8_parseApart_X6_at rfl ⟨rfl, rfl⟩ hd_X6_at ⟨Nat.le_of_ble_eq_true rfl, Nat.le_of_ble_eq_true rfl⟩ rfl hl.1 rfl (Nat.le_of_ble_eq_true rfl) dX8_parseApart_67 (fun H locs hM => ?_)
      clear ho
      obtain ⟨o3, ho, hf⟩ := m_calE hf
      refine z_callSNi X hM (c_X11_isRank ho) gX8_parseApart_X11_isRank_n117 nn_X8_parseApart_117.1.1 nn_X8_parseApart_117.1.2 nn_X8_parseApart_117.2 rfl ⟨rfl, rfl⟩ hd_X11_isRank ⟨Nat.le_of_ble_eq_true rfl, Nat.le_of_ble_eq_true rfl⟩ rfl hl.1 rfl (Nat.le_of_ble_eq_true rfl) dX8_parseApart_70 (fun H locs hM => ?_)
      clear ho
      refine lv_if_eq (tgt := 94) hx hb dX8_parseApart_73 (by decide) (fun cc1 => ?_) (fun cc1 => ?_)
      · replace hf := m_ifT hf cc1
        exact w_X8_parseApart_94 (x2 := x2) (x3 := x3) X hret hf hM (lv_sub hl [1, 2] rfl)
      · replace hf := m_ifF hf cc1
        refine lv_aload_n hx hb dX8_parseApart_76 rfl (lv_at hl 0 rfl) ?_
        refine lv_aload_n hx hb dX8_parseApart_77 rfl (lv_at hl 0 rfl) ?_
        obtain ⟨ca, hf⟩ := m_chkE hf
        refine z_get (k := 8) (j := 1) (C := RX8) (T := TX8) (N := 12) (fl := zf_8) (v := va_rf (zP o3.2 1 x0)) X hw_X8_parseApart_8 hM rfl zc_8 ca (by decide) fl_X8_parseApart_8_1 rfl dX8_parseApart_78 ?_
        clear ca
        obtain ⟨b4, hb9, hf⟩ := m_calE hf
        refine z_topr hb9 ?_
        clear hb9
        refine lv_iload_n hx hb dX8_parseApart_81 rfl (lv_at hl 2 rfl) ?_
        obtain ⟨ca, hf⟩ := m_chkE hf
        obtain ⟨o5, ho, hf⟩ := m_calE hf
        refine z_callVi (k := 6) (C := RX6) (T := TX6) (N := 2) (fl := zf_6) X hM rfl zc_6 ca (c_X6_at ho) gX8_parseApart_X6_at rfl ⟨rfl, rfl⟩ hd_X6_at ⟨Nat.le_of_ble_eq_true rfl, Nat.le_of_ble_eq_true rfl⟩ rfl hl.1 rfl (Nat.le_of_ble_eq_true rfl) dX8_parseApart_82 (fun H locs hM => ?_)
        clear ho
        refine lv_bipush (v := (49 : Int32)) hx hb dX8_parseApart_85 (by decide) ?_
        refine lv_isub hx hb dX8_parseApart_87 ?_
        obtain ⟨v6, ev, hf⟩ := m_bndE hf
        refine m_top ev ?_
        clear ev
        obtain ⟨ca, hf⟩ := m_chkE hf
        refine z_putI (k := 8) (j := 5) (C := RX8) (T := TX8) (N := 12) (fl := zf_8) (ty := .int) X hw_X8_parseApart_8 tyX8_ok nmX8 hM rfl zc_8 ca (by decide) fl_X8_parseApart_8_5 rfl (tyX8_ok 5 (by decide)) rfl rfl zi_8_5 (Nat.le_of_ble_eq_true rfl) dX8_parseApart_88 (fun H locs hM => ?_)
        clear ca
        obtain ⟨S7, ev, hf⟩ := m_bndE hf
        replace hM := z_hS hM ev
        clear ev
        obtain ⟨v8, ev, hf⟩ := m_bndE hf
        refine lv_iinc (v := v8) (lv' := [(3, .int v8), (0, .ref x0), (2, .int x2)]) hx hb dX8_parseApart_91 hl (k := 2) rfl (by rw [ev]; rfl) (by decide) rfl (fun ls hl => ?_)
        clear ev
        exact w_X8_parseApart_94 (x2 := x2) (x3 := v8) X hret hf hM (lv_sub hl [2, 0] rfl)
def f_X8_parseApart_0 (x0 : Nat) (x1 : Int32) (x2 : Int32) (S : ZS) : Option (Int32 × ZS) :=
  m_chk (x0 ∈ zL S ∧ zK S x0 = 8) (
  m_bnd (zsI S 4 x0 (-1 : Int32)) (fun S1 =>
  m_chk (x0 ∈ zL S1 ∧ zK S1 x0 = 8) (
  m_bnd (zsI S1 5 x0 (-1 : Int32)) (fun S2 =>
  m_if (x2 ≤ x1) (
  f_X8_parseApart_49 x0 x2 x1 S2
  ) (
  m_chk (x0 ∈ zL S2 ∧ zK S2 x0 = 8) (
  m_cal (zP S2 1 x0) (fun b3 =>
  m_chk (b3 ∈ zL S2 ∧ zK S2 b3 = 6) (
  m_cal (f_X6_at b3 x1 S2) (fun o4 =>
  m_cal (f_X11_isFile o4.1 o4.2) (fun o5 =>
  m_if (o5.1 = 0) (
  f_X8_parseApart_49 x0 x2 x1 o5.2
  ) (
  m_chk (x0 ∈ zL o5.2 ∧ zK o5.2 x0 = 8) (
  m_cal (zP o5.2 1 x0) (fun b6 =>
  m_chk (b6 ∈ zL o5.2 ∧ zK o5.2 b6 = 6) (
  m_cal (f_X6_at b6 x1 o5.2) (fun o7 =>
  m_bnd (o7.1 - (97 : Int32)) (fun v8 =>
  m_chk (x0 ∈ zL o7.2 ∧ zK o7.2 x0 = 8) (
  m_bnd (zsI o7.2 4 x0 v8) (fun S9 =>
  m_bnd (x1 + (1 : Int32)) (fun v10 =>
  f_X8_parseApart_49 x0 x2 v10 S9))))))))
  ))))))
  )))))

set_option maxRecDepth 100000 in
set_option maxHeartbeats 4000000 in
theorem w_X8_parseApart_0 {p : Program} {l : Launch} {e : Env} {s : State} {m : MethodId} {args : Array Value} {below : List Frame} {meth : Method} {c : Code} {Q : State → Prop} {D : va_G} {y : Nat → ClassId} {A0 : Nat → Prop} {o : Int32 × ZS} (X : CallFix p m c cX8_parseApart 4 s args wsX8_parseApart RX8) (hret : zRi p l e ({ frames := 1, cells := 0, slots := 0, locals := 21 } : Room) s m args below meth c Q cX8_parseApart D y A0 .boolean o) {x0 : Nat} {x1 : Int32} {x2 : Int32} {S : ZS} {H : Heap} {locs : List Loc} {ls : Array Slot} (hf : f_X8_parseApart_0 x0 x1 x2 S = some o) (hM : zH D y A0 s H locs S) (hl : lv_has ls 4 [(0, .ref x0), (1, .int x1), (2, .int x2)]) : W p l e ({ frames := 1, cells := 0, slots := 0, locals := 21 } : Room) s m args below meth c H locs 0 0 Q (F0 m 0 ls []) := by
  obtain ⟨hx, hb, hml, hown, hts⟩ := id X
  unfold f_X8_parseApart_0 at hf
  refine lv_iload_n hx hb dX8_parseApart_0 rfl (lv_at hl 1 rfl) ?_
  refine lv_istore_n (lv' := [(3, .int x1), (0, .ref x0), (1, .int x1), (2, .int x2)]) hx hb dX8_parseApart_1 rfl hl (by decide) rfl (fun ls hl => ?_)
  refine lv_aload_n hx hb dX8_parseApart_2 rfl (lv_at hl 1 rfl) ?_
  refine lv_iconst (v := (-1 : Int32)) hx hb dX8_parseApart_3 (by decide) ?_
  obtain ⟨ca, hf⟩ := m_chkE hf
  refine z_putI (k := 8) (j := 4) (C := RX8) (T := TX8) (N := 12) (fl := zf_8) (ty := .int) X hw_X8_parseApart_8 tyX8_ok nmX8 hM rfl zc_8 ca (by decide) fl_X8_parseApart_8_4 rfl (tyX8_ok 4 (by decide)) rfl rfl zi_8_4 (Nat.le_of_ble_eq_true rfl) dX8_parseApart_4 (fun H locs hM => ?_)
  clear ca
  obtain ⟨S1, ev, hf⟩ := m_bndE hf
  replace hM := z_hS hM ev
  clear ev
  refine lv_aload_n hx hb dX8_parseApart_7 rfl (lv_at hl 1 rfl) ?_
  refine lv_iconst (v := (-1 : Int32)) hx hb dX8_parseApart_8 (by decide) ?_
  obtain ⟨ca, hf⟩ := m_chkE hf
  refine z_putI (k := 8) (j := 5) (C := RX8) (T := TX8) (N := 12) (fl := zf_8) (ty := .int) X hw_X8_parseApart_8 tyX8_ok nmX8 hM rfl zc_8 ca (by decide) fl_X8_parseApart_8_5 rfl (tyX8_ok 5 (by decide)) rfl rfl zi_8_5 (Nat.le_of_ble_eq_true rfl) dX8_parseApart_9 (fun H locs hM => ?_)
  clear ca
  obtain ⟨S2, ev, hf⟩ := m_bndE hf
  replace hM := z_hS hM ev
  clear ev
  refine lv_iload_n hx hb dX8_parseApart_12 rfl (lv_at hl 0 rfl) ?_
  refine lv_iload_n hx hb dX8_parseApart_13 rfl (lv_at hl 3 rfl) ?_
  refine lv_icmp_ge (tgt := 49) hx hb dX8_parseApart_14 (by decide) (fun cc1 => ?_) (fun cc1 => ?_)
  · replace hf := m_ifT hf cc1
    exact w_X8_parseApart_49 (x0 := x0) (x2 := x2) (x3 := x1) X hret hf hM (lv_sub hl [1, 3, 0] rfl)
  · replace hf := m_ifF hf cc1
    refine lv_aload_n hx hb dX8_parseApart_17 rfl (lv_at hl 1 rfl) ?_
    obtain ⟨ca, hf⟩ := m_chkE hf
    refine z_get (k := 8) (j := 1) (C := RX8) (T := TX8) (N := 12) (fl := zf_8) (v := va_rf (zP S2 1 x0)) X hw_X8_parseApart_8 hM rfl zc_8 ca (by decide) fl_X8_parseApart_8_1 rfl dX8_parseApart_18 ?_
    clear ca
    obtain ⟨b3, hb9, hf⟩ := m_calE hf
    refine z_topr hb9 ?_
    clear hb9
    refine lv_iload_n hx hb dX8_parseApart_21 rfl (lv_at hl 0 rfl) ?_
    obtain ⟨ca, hf⟩ := m_chkE hf
    obtain ⟨o4, ho, hf⟩ := m_calE hf
    refine z_callVi (k := 6) (C := RX6) (T := TX6) (N := 2) (fl := zf_6) X hM rfl zc_6 ca (c_X6_at ho) gX8_parseApart_X6_at rfl ⟨rfl, rfl⟩ hd_X6_at ⟨Nat.le_of_ble_eq_true rfl, Nat.le_of_ble_eq_true rfl⟩ rfl hl.1 rfl (Nat.le_of_ble_eq_true rfl) dX8_parseApart_22 (fun H locs hM => ?_)
    clear ho
    obtain ⟨o5, ho, hf⟩ := m_calE hf
    refine z_callSNi X hM (c_X11_isFile ho) gX8_parseApart_X11_isFile_n113 nn_X8_parseApart_113.1.1 nn_X8_parseApart_113.1.2 nn_X8_parseApart_113.2 rfl ⟨rfl, rfl⟩ hd_X11_isFile ⟨Nat.le_of_ble_eq_true rfl, Nat.le_of_ble_eq_true rfl⟩ rfl hl.1 rfl (Nat.le_of_ble_eq_true rfl) dX8_parseApart_25 (fun H locs hM => ?_)
    clear ho
    refine lv_if_eq (tgt := 49) hx hb dX8_parseApart_28 (by decide) (fun cc1 => ?_) (fun cc1 => ?_)
    · replace hf := m_ifT hf cc1
      exact w_X8_parseApart_49 (x0 := x0) (x2 := x2) (x3 := x1) X hret hf hM (lv_sub hl [1, 3, 0] rfl)
    · replace hf := m_ifF hf cc1
      refine lv_aload_n hx hb dX8_parseApart_31 rfl (lv_at hl 1 rfl) ?_
      refine lv_aload_n hx hb dX8_parseApart_32 rfl (lv_at hl 1 rfl) ?_
      obtain ⟨ca, hf⟩ := m_chkE hf
      refine z_get (k := 8) (j := 1) (C := RX8) (T := TX8) (N := 12) (fl := zf_8) (v := va_rf (zP o5.2 1 x0)) X hw_X8_parseApart_8 hM rfl zc_8 ca (by decide) fl_X8_parseApart_8_1 rfl dX8_parseApart_33 ?_
      clear ca
      obtain ⟨b6, hb9, hf⟩ := m_calE hf
      refine z_topr hb9 ?_
      clear hb9
      refine lv_iload_n hx hb dX8_parseApart_36 rfl (lv_at hl 0 rfl) ?_
      obtain ⟨ca, hf⟩ := m_chkE hf
      obtain ⟨o7, ho, hf⟩ := m_calE hf
      refine z_callVi (k := 6) (C := RX6) (T := TX6) (N := 2) (fl := zf_6) X hM rfl zc_6 ca (c_X6_at ho) gX8_parseApart_X6_at rfl ⟨rfl, rfl⟩ hd_X6_at ⟨Nat.le_of_ble_eq_true rfl, Nat.le_of_ble_eq_true rfl⟩ rfl hl.1 rfl (Nat.le_of_ble_eq_true rfl) dX8_parseApart_37 (fun H locs hM => ?_)
      clear ho
      refine lv_bipush (v := (97 : Int32)) hx hb dX8_parseApart_40 (by decide) ?_
      refine lv_isub hx hb dX8_parseApart_42 ?_
      obtain ⟨v8, ev, hf⟩ := m_bndE hf
      refine m_top ev ?_
      clear ev
      obtain ⟨ca, hf⟩ := m_chkE hf
      refine z_putI (k := 8) (j := 4) (C := RX8) (T := TX8) (N := 12) (fl := zf_8) (ty := .int) X hw_X8_parseApart_8 tyX8_ok nmX8 hM rfl zc_8 ca (by decide) fl_X8_parseApart_8_4 rfl (tyX8_ok 4 (by decide)) rfl rfl zi_8_4 (Nat.le_of_ble_eq_true rfl) dX8_parseApart_43 (fun H locs hM => ?_)
      clear ca
      obtain ⟨S9, ev, hf⟩ := m_bndE hf
      replace hM := z_hS hM ev
      clear ev
      obtain ⟨v10, ev, hf⟩ := m_bndE hf
      refine lv_iinc (v := v10) (lv' := [(3, .int v10), (0, .ref x0), (1, .int x1), (2, .int x2)]) hx hb dX8_parseApart_46 hl (k := 0) rfl (by rw [ev]; rfl) (by decide) rfl (fun ls hl => ?_)
      clear ev
      exact w_X8_parseApart_49 (x0 := x0) (x2 := x2) (x3 := v10) X hret hf hM (lv_sub hl [1, 3, 0] rfl)
def f_X8_parseApart (x0 : Nat) (x1 : Int32) (x2 : Int32) (S : ZS) : Option (Int32 × ZS) := f_X8_parseApart_0 x0 x1 x2 S
theorem c_X8_parseApart {l : Launch} {D : va_G} {y : Nat → ClassId} {x0 : Nat} {x1 : Int32} {x2 : Int32} {S : ZS} {o : Int32 × ZS} (hf : f_X8_parseApart x0 x1 x2 S = some o) : zMi l yX8_parseApart wsX8_parseApart ({ frames := 1, cells := 0, slots := 0, locals := 21 } : Room) [.ref x0, .int x1, .int x2] D y S o :=
  z_entryI (own := RX8) (cc := cX8_parseApart) (maxL := 4) (by decide) rfl rfl (Nat.le_of_ble_eq_true rfl) (fun p e s m args below meth c A0 Q H locs ls X hret hM hl => w_X8_parseApart_0 X hret hf hM (lv_sub hl [0, 1, 2] rfl))
theorem hd_X8_parseApart : yX8_parseApart.cls = RX8 ∧ yX8_parseApart.cls ≠ "java/lang/invoke/MethodHandle" ∧ yX8_parseApart.cls ≠ "java/lang/invoke/VarHandle" ∧ (parseMethodDescriptor yX8_parseApart.desc).map (fun d => d.parameters.length) = some 2 := by decide +kernel
theorem fl_X8_fitsFrom_0_0 : Cond.fieldLink RX8 138 "MoveTexts$Board" "men" "[I" ∈ wsX8_fitsFrom := by decide +kernel
theorem fl_X8_fitsFrom_0_3 : Cond.fieldLink RX8 120 "MoveTexts$Board" "side" "I" ∈ wsX8_fitsFrom := by decide +kernel
theorem fl_X8_fitsFrom_8_3 : Cond.fieldLink RX8 93 "MoveTexts$SignReader" "kind" "I" ∈ wsX8_fitsFrom := by decide +kernel
theorem fl_X8_fitsFrom_8_4 : Cond.fieldLink RX8 107 "MoveTexts$SignReader" "file" "I" ∈ wsX8_fitsFrom := by decide +kernel
theorem fl_X8_fitsFrom_8_5 : Cond.fieldLink RX8 110 "MoveTexts$SignReader" "rank" "I" ∈ wsX8_fitsFrom := by decide +kernel
theorem fl_X8_fitsFrom_8_6 : Cond.fieldLink RX8 100 "MoveTexts$SignReader" "to" "I" ∈ wsX8_fitsFrom := by decide +kernel
theorem fl_X8_fitsFrom_8_7 : Cond.fieldLink RX8 75 "MoveTexts$SignReader" "becomes" "I" ∈ wsX8_fitsFrom := by decide +kernel
theorem fl_X8_fitsFrom_8_8 : Cond.fieldLink RX8 56 "MoveTexts$SignReader" "taking" "I" ∈ wsX8_fitsFrom := by decide +kernel
theorem hw_X8_fitsFrom_0 : ∀ w ∈ wsX00, w ∈ wsX8_fitsFrom := by decide +kernel
theorem hw_X8_fitsFrom_8 : ∀ w ∈ wsX80, w ∈ wsX8_fitsFrom := by decide +kernel
def f_X8_fitsFrom_70 (S : ZS) : Option (Int32 × ZS) :=
  m_chk (vp_nar .boolean (0 : Int32) = (0 : Int32)) (some ((0 : Int32), S))

set_option maxRecDepth 100000 in
set_option maxHeartbeats 4000000 in
theorem w_X8_fitsFrom_70 {p : Program} {l : Launch} {e : Env} {s : State} {m : MethodId} {args : Array Value} {below : List Frame} {meth : Method} {c : Code} {Q : State → Prop} {D : va_G} {y : Nat → ClassId} {A0 : Nat → Prop} {o : Int32 × ZS} (X : CallFix p m c cX8_fitsFrom 4 s args wsX8_fitsFrom RX8) (hret : zRi p l e ({ frames := 2, cells := 0, slots := 0, locals := 43 } : Room) s m args below meth c Q cX8_fitsFrom D y A0 .boolean o) {S : ZS} {H : Heap} {locs : List Loc} {ls : Array Slot} (hf : f_X8_fitsFrom_70  S = some o) (hM : zH D y A0 s H locs S) (hl : lv_has ls 4 []) : W p l e ({ frames := 2, cells := 0, slots := 0, locals := 43 } : Room) s m args below meth c H locs 0 0 Q (F0 m 70 ls []) := by
  obtain ⟨hx, hb, hml, hown, hts⟩ := id X
  unfold f_X8_fitsFrom_70 at hf
  refine lv_iconst (v := (0 : Int32)) hx hb dX8_fitsFrom_70 (by decide) ?_
  obtain ⟨cd, hf⟩ := m_chkE hf
  cases hf
  exact hret H locs _ ls hM (m_nb cd) dX8_fitsFrom_71
def f_X8_fitsFrom_158 (t0 : Int32) (S : ZS) : Option (Int32 × ZS) :=
  m_chk (vp_nar .boolean t0 = t0) (some (t0, S))

set_option maxRecDepth 100000 in
set_option maxHeartbeats 4000000 in
theorem w_X8_fitsFrom_158 {p : Program} {l : Launch} {e : Env} {s : State} {m : MethodId} {args : Array Value} {below : List Frame} {meth : Method} {c : Code} {Q : State → Prop} {D : va_G} {y : Nat → ClassId} {A0 : Nat → Prop} {o : Int32 × ZS} (X : CallFix p m c cX8_fitsFrom 4 s args wsX8_fitsFrom RX8) (hret : zRi p l e ({ frames := 2, cells := 0, slots := 0, locals := 43 } : Room) s m args below meth c Q cX8_fitsFrom D y A0 .boolean o) {t0 : Int32} {S : ZS} {H : Heap} {locs : List Loc} {ls : Array Slot} (hf : f_X8_fitsFrom_158 t0 S = some o) (hM : zH D y A0 s H locs S) (hl : lv_has ls 4 []) : W p l e ({ frames := 2, cells := 0, slots := 0, locals := 43 } : Room) s m args below meth c H locs 0 0 Q (F0 m 158 ls [.int t0]) := by
  obtain ⟨hx, hb, hml, hown, hts⟩ := id X
  unfold f_X8_fitsFrom_158 at hf
  obtain ⟨cd, hf⟩ := m_chkE hf
  cases hf
  exact hret H locs _ ls hM (m_nb cd) dX8_fitsFrom_158
def f_X8_fitsFrom_157 (S : ZS) : Option (Int32 × ZS) :=
  f_X8_fitsFrom_158 (0 : Int32) S

set_option maxRecDepth 100000 in
set_option maxHeartbeats 4000000 in
theorem w_X8_fitsFrom_157 {p : Program} {l : Launch} {e : Env} {s : State} {m : MethodId} {args : Array Value} {below : List Frame} {meth : Method} {c : Code} {Q : State → Prop} {D : va_G} {y : Nat → ClassId} {A0 : Nat → Prop} {o : Int32 × ZS} (X : CallFix p m c cX8_fitsFrom 4 s args wsX8_fitsFrom RX8) (hret : zRi p l e ({ frames := 2, cells := 0, slots := 0, locals := 43 } : Room) s m args below meth c Q cX8_fitsFrom D y A0 .boolean o) {S : ZS} {H : Heap} {locs : List Loc} {ls : Array Slot} (hf : f_X8_fitsFrom_157  S = some o) (hM : zH D y A0 s H locs S) (hl : lv_has ls 4 []) : W p l e ({ frames := 2, cells := 0, slots := 0, locals := 43 } : Room) s m args below meth c H locs 0 0 Q (F0 m 157 ls []) := by
  obtain ⟨hx, hb, hml, hown, hts⟩ := id X
  unfold f_X8_fitsFrom_157 at hf
  refine lv_iconst (v := (0 : Int32)) hx hb dX8_fitsFrom_157 (by decide) ?_
  exact w_X8_fitsFrom_158 (t0 := (0 : Int32)) X hret hf hM (lv_sub hl [] rfl)
def f_X8_fitsFrom_150 (t0 : Int32) (t1 : Int32) (S : ZS) : Option (Int32 × ZS) :=
  m_if (t1 = t0) (
  f_X8_fitsFrom_158 (1 : Int32) S
  ) (
  f_X8_fitsFrom_157  S
  )

set_option maxRecDepth 100000 in
set_option maxHeartbeats 4000000 in
theorem w_X8_fitsFrom_150 {p : Program} {l : Launch} {e : Env} {s : State} {m : MethodId} {args : Array Value} {below : List Frame} {meth : Method} {c : Code} {Q : State → Prop} {D : va_G} {y : Nat → ClassId} {A0 : Nat → Prop} {o : Int32 × ZS} (X : CallFix p m c cX8_fitsFrom 4 s args wsX8_fitsFrom RX8) (hret : zRi p l e ({ frames := 2, cells := 0, slots := 0, locals := 43 } : Room) s m args below meth c Q cX8_fitsFrom D y A0 .boolean o) {t0 : Int32} {t1 : Int32} {S : ZS} {H : Heap} {locs : List Loc} {ls : Array Slot} (hf : f_X8_fitsFrom_150 t0 t1 S = some o) (hM : zH D y A0 s H locs S) (hl : lv_has ls 4 []) : W p l e ({ frames := 2, cells := 0, slots := 0, locals := 43 } : Room) s m args below meth c H locs 0 0 Q (F0 m 150 ls [.int t0, .int t1]) := by
  obtain ⟨hx, hb, hml, hown, hts⟩ := id X
  unfold f_X8_fitsFrom_150 at hf
  refine lv_icmp_ne (tgt := 157) hx hb dX8_fitsFrom_150 (by decide) (fun cc1 => ?_) (fun cc1 => ?_)
  · replace hf := m_ifF hf cc1
    exact w_X8_fitsFrom_157 X hret hf hM (lv_sub hl [] rfl)
  · replace hf := m_ifT hf cc1
    refine lv_iconst (v := (1 : Int32)) hx hb dX8_fitsFrom_153 (by decide) ?_
    refine lv_goto (tgt := 158) hx hb dX8_fitsFrom_154 (by decide) ?_
    exact w_X8_fitsFrom_158 (t0 := (1 : Int32)) X hret hf hM (lv_sub hl [] rfl)
def f_X8_fitsFrom_129 (x0 : Nat) (x1 : Nat) (x2 : Int32) (S : ZS) : Option (Int32 × ZS) :=
  m_chk (x0 ∈ zL S ∧ zK S x0 = 8) (
  m_chk (x1 ∈ zL S ∧ zK S x1 = 0) (
  m_cal (f_X0_becomesAnother x1 x2 (zI S 6 x0) S) (fun o1 =>
  m_chk (x0 ∈ zL o1.2 ∧ zK o1.2 x0 = 8) (
  m_if ((zI o1.2 7 x0) = 0) (
  f_X8_fitsFrom_150 (0 : Int32) o1.1 o1.2
  ) (
  f_X8_fitsFrom_150 (1 : Int32) o1.1 o1.2
  )))))

set_option maxRecDepth 100000 in
set_option maxHeartbeats 4000000 in
theorem w_X8_fitsFrom_129 {p : Program} {l : Launch} {e : Env} {s : State} {m : MethodId} {args : Array Value} {below : List Frame} {meth : Method} {c : Code} {Q : State → Prop} {D : va_G} {y : Nat → ClassId} {A0 : Nat → Prop} {o : Int32 × ZS} (X : CallFix p m c cX8_fitsFrom 4 s args wsX8_fitsFrom RX8) (hret : zRi p l e ({ frames := 2, cells := 0, slots := 0, locals := 43 } : Room) s m args below meth c Q cX8_fitsFrom D y A0 .boolean o) {x0 : Nat} {x1 : Nat} {x2 : Int32} {S : ZS} {H : Heap} {locs : List Loc} {ls : Array Slot} (hf : f_X8_fitsFrom_129 x0 x1 x2 S = some o) (hM : zH D y A0 s H locs S) (hl : lv_has ls 4 [(0, .ref x0), (1, .ref x1), (2, .int x2)]) : W p l e ({ frames := 2, cells := 0, slots := 0, locals := 43 } : Room) s m args below meth c H locs 0 0 Q (F0 m 129 ls []) := by
  obtain ⟨hx, hb, hml, hown, hts⟩ := id X
  unfold f_X8_fitsFrom_129 at hf
  refine lv_aload_n hx hb dX8_fitsFrom_129 rfl (lv_at hl 1 rfl) ?_
  refine lv_iload_n hx hb dX8_fitsFrom_130 rfl (lv_at hl 2 rfl) ?_
  refine lv_aload_n hx hb dX8_fitsFrom_131 rfl (lv_at hl 0 rfl) ?_
  obtain ⟨ca, hf⟩ := m_chkE hf
  refine z_get (k := 8) (j := 6) (C := RX8) (T := TX8) (N := 12) (fl := zf_8) (v := .int (zI S 6 x0)) X hw_X8_fitsFrom_8 hM rfl zc_8 ca (by decide) fl_X8_fitsFrom_8_6 rfl dX8_fitsFrom_132 ?_
  clear ca
  obtain ⟨ca, hf⟩ := m_chkE hf
  obtain ⟨o1, ho, hf⟩ := m_calE hf
  refine z_callVi (k := 0) (C := RX0) (T := TX0) (N := 7) (fl := zf_0) X hM rfl zc_0 ca (c_X0_becomesAnother ho) gX8_fitsFrom_X0_becomesAnother rfl ⟨rfl, rfl⟩ hd_X0_becomesAnother ⟨Nat.le_of_ble_eq_true rfl, Nat.le_of_ble_eq_true rfl⟩ rfl hl.1 rfl (Nat.le_of_ble_eq_true rfl) dX8_fitsFrom_135 (fun H locs hM => ?_)
  clear ho
  refine lv_aload_n hx hb dX8_fitsFrom_138 rfl (lv_at hl 0 rfl) ?_
  obtain ⟨ca, hf⟩ := m_chkE hf
  refine z_get (k := 8) (j := 7) (C := RX8) (T := TX8) (N := 12) (fl := zf_8) (v := .int (zI o1.2 7 x0)) X hw_X8_fitsFrom_8 hM rfl zc_8 ca (by decide) fl_X8_fitsFrom_8_7 rfl dX8_fitsFrom_139 ?_
  clear ca
  refine lv_if_eq (tgt := 149) hx hb dX8_fitsFrom_142 (by decide) (fun cc1 => ?_) (fun cc1 => ?_)
  · replace hf := m_ifT hf cc1
    refine lv_iconst (v := (0 : Int32)) hx hb dX8_fitsFrom_149 (by decide) ?_
    exact w_X8_fitsFrom_150 (t0 := (0 : Int32)) (t1 := o1.1) X hret hf hM (lv_sub hl [] rfl)
  · replace hf := m_ifF hf cc1
    refine lv_iconst (v := (1 : Int32)) hx hb dX8_fitsFrom_145 (by decide) ?_
    refine lv_goto (tgt := 150) hx hb dX8_fitsFrom_146 (by decide) ?_
    exact w_X8_fitsFrom_150 (t0 := (1 : Int32)) (t1 := o1.1) X hret hf hM (lv_sub hl [] rfl)
def f_X8_fitsFrom_126 (x0 : Nat) (x1 : Nat) (x2 : Int32) (t0 : Int32) (t1 : Int32) (S : ZS) : Option (Int32 × ZS) :=
  m_if (t1 = t0) (
  f_X8_fitsFrom_129 x0 x1 x2 S
  ) (
  f_X8_fitsFrom_157  S
  )

set_option maxRecDepth 100000 in
set_option maxHeartbeats 4000000 in
theorem w_X8_fitsFrom_126 {p : Program} {l : Launch} {e : Env} {s : State} {m : MethodId} {args : Array Value} {below : List Frame} {meth : Method} {c : Code} {Q : State → Prop} {D : va_G} {y : Nat → ClassId} {A0 : Nat → Prop} {o : Int32 × ZS} (X : CallFix p m c cX8_fitsFrom 4 s args wsX8_fitsFrom RX8) (hret : zRi p l e ({ frames := 2, cells := 0, slots := 0, locals := 43 } : Room) s m args below meth c Q cX8_fitsFrom D y A0 .boolean o) {x0 : Nat} {x1 : Nat} {x2 : Int32} {t0 : Int32} {t1 : Int32} {S : ZS} {H : Heap} {locs : List Loc} {ls : Array Slot} (hf : f_X8_fitsFrom_126 x0 x1 x2 t0 t1 S = some o) (hM : zH D y A0 s H locs S) (hl : lv_has ls 4 [(0, .ref x0), (1, .ref x1), (2, .int x2)]) : W p l e ({ frames := 2, cells := 0, slots := 0, locals := 43 } : Room) s m args below meth c H locs 0 0 Q (F0 m 126 ls [.int t0, .int t1]) := by
  obtain ⟨hx, hb, hml, hown, hts⟩ := id X
  unfold f_X8_fitsFrom_126 at hf
  refine lv_icmp_ne (tgt := 157) hx hb dX8_fitsFrom_126 (by decide) (fun cc1 => ?_) (fun cc1 => ?_)
  · replace hf := m_ifF hf cc1
    exact w_X8_fitsFrom_157 X hret hf hM (lv_sub hl [] rfl)
  · replace hf := m_ifT hf cc1
    exact w_X8_fitsFrom_129 (x0 := x0) (x1 := x1) (x2 := x2) X hret hf hM (lv_sub hl [0, 1, 2] rfl)
def f_X8_fitsFrom_104 (x0 : Nat) (x1 : Nat) (x2 : Int32) (x3 : Int32) (S : ZS) : Option (Int32 × ZS) :=
  m_chk (x0 ∈ zL S ∧ zK S x0 = 8) (
  m_if ((zI S 8 x0) = (-1 : Int32)) (
  f_X8_fitsFrom_129 x0 x1 x2 S
  ) (
  m_chk (x0 ∈ zL S ∧ zK S x0 = 8) (
  m_if ((zI S 8 x0) = (1 : Int32)) (
  f_X8_fitsFrom_126 x0 x1 x2 (1 : Int32) x3 S
  ) (
  f_X8_fitsFrom_126 x0 x1 x2 (0 : Int32) x3 S
  ))
  ))

set_option maxRecDepth 100000 in
set_option maxHeartbeats 4000000 in
theorem w_X8_fitsFrom_104 {p : Program} {l : Launch} {e : Env} {s : State} {m : MethodId} {args : Array Value} {below : List Frame} {meth : Method} {c : Code} {Q : State → Prop} {D : va_G} {y : Nat → ClassId} {A0 : Nat → Prop} {o : Int32 × ZS} (X : CallFix p m c cX8_fitsFrom 4 s args wsX8_fitsFrom RX8) (hret : zRi p l e ({ frames := 2, cells := 0, slots := 0, locals := 43 } : Room) s m args below meth c Q cX8_fitsFrom D y A0 .boolean o) {x0 : Nat} {x1 : Nat} {x2 : Int32} {x3 : Int32} {S : ZS} {H : Heap} {locs : List Loc} {ls : Array Slot} (hf : f_X8_fitsFrom_104 x0 x1 x2 x3 S = some o) (hM : zH D y A0 s H locs S) (hl : lv_has ls 4 [(0, .ref x0), (1, .ref x1), (2, .int x2), (3, .int x3)]) : W p l e ({ frames := 2, cells := 0, slots := 0, locals := 43 } : Room) s m args below meth c H locs 0 0 Q (F0 m 104 ls []) := by
  obtain ⟨hx, hb, hml, hown, hts⟩ := id X
  unfold f_X8_fitsFrom_104 at hf
  refine lv_aload_n hx hb dX8_fitsFrom_104 rfl (lv_at hl 0 rfl) ?_
  obtain ⟨ca, hf⟩ := m_chkE hf
  refine z_get (k := 8) (j := 8) (C := RX8) (T := TX8) (N := 12) (fl := zf_8) (v := .int (zI S 8 x0)) X hw_X8_fitsFrom_8 hM rfl zc_8 ca (by decide) fl_X8_fitsFrom_8_8 rfl dX8_fitsFrom_105 ?_
  clear ca
  refine lv_iconst (v := (-1 : Int32)) hx hb dX8_fitsFrom_108 (by decide) ?_
  refine lv_icmp_eq (tgt := 129) hx hb dX8_fitsFrom_109 (by decide) (fun cc1 => ?_) (fun cc1 => ?_)
  · replace hf := m_ifT hf cc1
    exact w_X8_fitsFrom_129 (x0 := x0) (x1 := x1) (x2 := x2) X hret hf hM (lv_sub hl [0, 1, 2] rfl)
  · replace hf := m_ifF hf cc1
    refine lv_iload_n hx hb dX8_fitsFrom_112 rfl (lv_at hl 3 rfl) ?_
    refine lv_aload_n hx hb dX8_fitsFrom_113 rfl (lv_at hl 0 rfl) ?_
    obtain ⟨ca, hf⟩ := m_chkE hf
    refine z_get (k := 8) (j := 8) (C := RX8) (T := TX8) (N := 12) (fl := zf_8) (v := .int (zI S 8 x0)) X hw_X8_fitsFrom_8 hM rfl zc_8 ca (by decide) fl_X8_fitsFrom_8_8 rfl dX8_fitsFrom_114 ?_
    clear ca
    refine lv_iconst (v := (1 : Int32)) hx hb dX8_fitsFrom_117 (by decide) ?_
    refine lv_icmp_ne (tgt := 125) hx hb dX8_fitsFrom_118 (by decide) (fun cc1 => ?_) (fun cc1 => ?_)
    · replace hf := m_ifF hf cc1
      refine lv_iconst (v := (0 : Int32)) hx hb dX8_fitsFrom_125 (by decide) ?_
      exact w_X8_fitsFrom_126 (x0 := x0) (x1 := x1) (x2 := x2) (t0 := (0 : Int32)) (t1 := x3) X hret hf hM (lv_sub hl [0, 1, 2] rfl)
    · replace hf := m_ifT hf cc1
      refine lv_iconst (v := (1 : Int32)) hx hb dX8_fitsFrom_121 (by decide) ?_
      refine lv_goto (tgt := 126) hx hb dX8_fitsFrom_122 (by decide) ?_
      exact w_X8_fitsFrom_126 (x0 := x0) (x1 := x1) (x2 := x2) (t0 := (1 : Int32)) (t1 := x3) X hret hf hM (lv_sub hl [0, 1, 2] rfl)
def f_X8_fitsFrom_72 (x0 : Nat) (x1 : Nat) (x2 : Int32) (S : ZS) : Option (Int32 × ZS) :=
  m_chk (x0 ∈ zL S ∧ zK S x0 = 8) (
  m_chk (x1 ∈ zL S ∧ zK S x1 = 0) (
  m_cal (f_X0_takes x1 x2 (zI S 6 x0) S) (fun o1 =>
  m_chk (x0 ∈ zL o1.2 ∧ zK o1.2 x0 = 8) (
  m_if ((zI o1.2 3 x0) = (1 : Int32)) (
  m_if (o1.1 = 0) (
  f_X8_fitsFrom_104 x0 x1 x2 o1.1 o1.2
  ) (
  m_chk (x0 ∈ zL o1.2 ∧ zK o1.2 x0 = 8) (
  m_if ((zI o1.2 4 x0) = (-1 : Int32)) (
  m_chk (vp_nar .boolean (0 : Int32) = (0 : Int32)) (some ((0 : Int32), o1.2))
  ) (
  f_X8_fitsFrom_104 x0 x1 x2 o1.1 o1.2
  ))
  )
  ) (
  f_X8_fitsFrom_104 x0 x1 x2 o1.1 o1.2
  )))))

set_option maxRecDepth 100000 in
set_option maxHeartbeats 4000000 in
theorem w_X8_fitsFrom_72 {p : Program} {l : Launch} {e : Env} {s : State} {m : MethodId} {args : Array Value} {below : List Frame} {meth : Method} {c : Code} {Q : State → Prop} {D : va_G} {y : Nat → ClassId} {A0 : Nat → Prop} {o : Int32 × ZS} (X : CallFix p m c cX8_fitsFrom 4 s args wsX8_fitsFrom RX8) (hret : zRi p l e ({ frames := 2, cells := 0, slots := 0, locals := 43 } : Room) s m args below meth c Q cX8_fitsFrom D y A0 .boolean o) {x0 : Nat} {x1 : Nat} {x2 : Int32} {S : ZS} {H : Heap} {locs : List Loc} {ls : Array Slot} (hf : f_X8_fitsFrom_72 x0 x1 x2 S = some o) (hM : zH D y A0 s H locs S) (hl : lv_has ls 4 [(0, .ref x0), (1, .ref x1), (2, .int x2)]) : W p l e ({ frames := 2, cells := 0, slots := 0, locals := 43 } : Room) s m args below meth c H locs 0 0 Q (F0 m 72 ls []) := by
  obtain ⟨hx, hb, hml, hown, hts⟩ := id X
  unfold f_X8_fitsFrom_72 at hf
  refine lv_aload_n hx hb dX8_fitsFrom_72 rfl (lv_at hl 1 rfl) ?_
  refine lv_iload_n hx hb dX8_fitsFrom_73 rfl (lv_at hl 2 rfl) ?_
  refine lv_aload_n hx hb dX8_fitsFrom_74 rfl (lv_at hl 0 rfl) ?_
  obtain ⟨ca, hf⟩ := m_chkE hf
  refine z_get (k := 8) (j := 6) (C := RX8) (T := TX8) (N := 12) (fl := zf_8) (v := .int (zI S 6 x0)) X hw_X8_fitsFrom_8 hM rfl zc_8 ca (by decide) fl_X8_fitsFrom_8_6 rfl dX8_fitsFrom_75 ?_
  clear ca
  obtain ⟨ca, hf⟩ := m_chkE hf
  obtain ⟨o1, ho, hf⟩ := m_calE hf
  refine z_callVi (k := 0) (C := RX0) (T := TX0) (N := 7) (fl := zf_0) X hM rfl zc_0 ca (c_X0_takes ho) gX8_fitsFrom_X0_takes rfl ⟨rfl, rfl⟩ hd_X0_takes ⟨Nat.le_of_ble_eq_true rfl, Nat.le_of_ble_eq_true rfl⟩ rfl hl.1 rfl (Nat.le_of_ble_eq_true rfl) dX8_fitsFrom_78 (fun H locs hM => ?_)
  clear ho
  refine lv_istore_n (lv' := [(3, .int o1.1), (0, .ref x0), (1, .ref x1), (2, .int x2)]) hx hb dX8_fitsFrom_81 rfl hl (by decide) rfl (fun ls hl => ?_)
  refine lv_aload_n hx hb dX8_fitsFrom_82 rfl (lv_at hl 1 rfl) ?_
  obtain ⟨ca, hf⟩ := m_chkE hf
  refine z_get (k := 8) (j := 3) (C := RX8) (T := TX8) (N := 12) (fl := zf_8) (v := .int (zI o1.2 3 x0)) X hw_X8_fitsFrom_8 hM rfl zc_8 ca (by decide) fl_X8_fitsFrom_8_3 rfl dX8_fitsFrom_83 ?_
  clear ca
  refine lv_iconst (v := (1 : Int32)) hx hb dX8_fitsFrom_86 (by decide) ?_
  refine lv_icmp_ne (tgt := 104) hx hb dX8_fitsFrom_87 (by decide) (fun cc1 => ?_) (fun cc1 => ?_)
  · replace hf := m_ifF hf cc1
    exact w_X8_fitsFrom_104 (x0 := x0) (x1 := x1) (x2 := x2) (x3 := o1.1) X hret hf hM (lv_sub hl [1, 2, 3, 0] rfl)
  · replace hf := m_ifT hf cc1
    refine lv_iload_n hx hb dX8_fitsFrom_90 rfl (lv_at hl 0 rfl) ?_
    refine lv_if_eq (tgt := 104) hx hb dX8_fitsFrom_91 (by decide) (fun cc1 => ?_) (fun cc1 => ?_)
    · replace hf := m_ifT hf cc1
      exact w_X8_fitsFrom_104 (x0 := x0) (x1 := x1) (x2 := x2) (x3 := o1.1) X hret hf hM (lv_sub hl [1, 2, 3, 0] rfl)
    · replace hf := m_ifF hf cc1
      refine lv_aload_n hx hb dX8_fitsFrom_94 rfl (lv_at hl 1 rfl) ?_
      obtain ⟨ca, hf⟩ := m_chkE hf
      refine z_get (k := 8) (j := 4) (C := RX8) (T := TX8) (N := 12) (fl := zf_8) (v := .int (zI o1.2 4 x0)) X hw_X8_fitsFrom_8 hM rfl zc_8 ca (by decide) fl_X8_fitsFrom_8_4 rfl dX8_fitsFrom_95 ?_
      clear ca
      refine lv_iconst (v := (-1 : Int32)) hx hb dX8_fitsFrom_98 (by decide) ?_
      refine lv_icmp_ne (tgt := 104) hx hb dX8_fitsFrom_99 (by decide) (fun cc1 => ?_) (fun cc1 => ?_)
      · replace hf := m_ifF hf cc1
        exact w_X8_fitsFrom_104 (x0 := x0) (x1 := x1) (x2 := x2) (x3 := o1.1) X hret hf hM (lv_sub hl [1, 2, 3, 0] rfl)
      · replace hf := m_ifT hf cc1
        refine lv_iconst (v := (0 : Int32)) hx hb dX8_fitsFrom_102 (by decide) ?_
        obtain ⟨cd, hf⟩ := m_chkE hf
        cases hf
        exact hret H locs _ ls hM (m_nb cd) dX8_fitsFrom_103
def f_X8_fitsFrom_52 (x0 : Nat) (x1 : Nat) (x2 : Int32) (S : ZS) : Option (Int32 × ZS) :=
  m_chk (x0 ∈ zL S ∧ zK S x0 = 8) (
  m_if ((zI S 5 x0) = (-1 : Int32)) (
  f_X8_fitsFrom_72 x0 x1 x2 S
  ) (
  m_chk (x0 ∈ zL S ∧ zK S x0 = 8) (
  m_bnd (x2 >>> ((3 : Int32) &&& 31)) (fun v1 =>
  m_if ((zI S 5 x0) = v1) (
  f_X8_fitsFrom_72 x0 x1 x2 S
  ) (
  f_X8_fitsFrom_70  S
  )))
  ))

set_option maxRecDepth 100000 in
set_option maxHeartbeats 4000000 in
theorem w_X8_fitsFrom_52 {p : Program} {l : Launch} {e : Env} {s : State} {m : MethodId} {args : Array Value} {below : List Frame} {meth : Method} {c : Code} {Q : State → Prop} {D : va_G} {y : Nat → ClassId} {A0 : Nat → Prop} {o : Int32 × ZS} (X : CallFix p m c cX8_fitsFrom 4 s args wsX8_fitsFrom RX8) (hret : zRi p l e ({ frames := 2, cells := 0, slots := 0, locals := 43 } : Room) s m args below meth c Q cX8_fitsFrom D y A0 .boolean o) {x0 : Nat} {x1 : Nat} {x2 : Int32} {S : ZS} {H : Heap} {locs : List Loc} {ls : Array Slot} (hf : f_X8_fitsFrom_52 x0 x1 x2 S = some o) (hM : zH D y A0 s H locs S) (hl : lv_has ls 4 [(0, .ref x0), (1, .ref x1), (2, .int x2)]) : W p l e ({ frames := 2, cells := 0, slots := 0, locals := 43 } : Room) s m args below meth c H locs 0 0 Q (F0 m 52 ls []) := by
  obtain ⟨hx, hb, hml, hown, hts⟩ := id X
  unfold f_X8_fitsFrom_52 at hf
  refine lv_aload_n hx hb dX8_fitsFrom_52 rfl (lv_at hl 0 rfl) ?_
  obtain ⟨ca, hf⟩ := m_chkE hf
  refine z_get (k := 8) (j := 5) (C := RX8) (T := TX8) (N := 12) (fl := zf_8) (v := .int (zI S 5 x0)) X hw_X8_fitsFrom_8 hM rfl zc_8 ca (by decide) fl_X8_fitsFrom_8_5 rfl dX8_fitsFrom_53 ?_
  clear ca
  refine lv_iconst (v := (-1 : Int32)) hx hb dX8_fitsFrom_56 (by decide) ?_
  refine lv_icmp_eq (tgt := 72) hx hb dX8_fitsFrom_57 (by decide) (fun cc1 => ?_) (fun cc1 => ?_)
  · replace hf := m_ifT hf cc1
    exact w_X8_fitsFrom_72 (x0 := x0) (x1 := x1) (x2 := x2) X hret hf hM (lv_sub hl [0, 1, 2] rfl)
  · replace hf := m_ifF hf cc1
    refine lv_aload_n hx hb dX8_fitsFrom_60 rfl (lv_at hl 0 rfl) ?_
    obtain ⟨ca, hf⟩ := m_chkE hf
    refine z_get (k := 8) (j := 5) (C := RX8) (T := TX8) (N := 12) (fl := zf_8) (v := .int (zI S 5 x0)) X hw_X8_fitsFrom_8 hM rfl zc_8 ca (by decide) fl_X8_fitsFrom_8_5 rfl dX8_fitsFrom_61 ?_
    clear ca
    refine lv_iload_n hx hb dX8_fitsFrom_64 rfl (lv_at hl 2 rfl) ?_
    refine lv_iconst (v := (3 : Int32)) hx hb dX8_fitsFrom_65 (by decide) ?_
    refine lv_ishr hx hb dX8_fitsFrom_66 ?_
    obtain ⟨v1, ev, hf⟩ := m_bndE hf
    refine m_top ev ?_
    clear ev
    refine lv_icmp_eq (tgt := 72) hx hb dX8_fitsFrom_67 (by decide) (fun cc1 => ?_) (fun cc1 => ?_)
    · replace hf := m_ifT hf cc1
      exact w_X8_fitsFrom_72 (x0 := x0) (x1 := x1) (x2 := x2) X hret hf hM (lv_sub hl [0, 1, 2] rfl)
    · replace hf := m_ifF hf cc1
      exact w_X8_fitsFrom_70 X hret hf hM (lv_sub hl [] rfl)
def f_X8_fitsFrom_0 (x0 : Nat) (x1 : Nat) (x2 : Int32) (S : ZS) : Option (Int32 × ZS) :=
  m_chk (x1 ∈ zL S ∧ zK S x1 = 0) (
  m_cal (zP S 0 x1) (fun b1 =>
  m_chk (b1 ∈ zL S ∧ zK S b1 = 14) (
  m_chk (¬ (x2 < 0 ∨ zN S b1 ≤ (x2).toNatClampNeg)) (
  m_bnd (zA S b1 (x2).toNatClampNeg) (fun v2 =>
  m_chk (x0 ∈ zL S ∧ zK S x0 = 8) (
  m_chk (x1 ∈ zL S ∧ zK S x1 = 0) (
  m_bnd ((8 : Int32) * (zI S 3 x1)) (fun v3 =>
  m_bnd ((zI S 3 x0) + v3) (fun v4 =>
  m_if (v2 = v4) (
  m_chk (x0 ∈ zL S ∧ zK S x0 = 8) (
  m_chk (x1 ∈ zL S ∧ zK S x1 = 0) (
  m_cal (f_X0_castles x1 x2 (zI S 6 x0) S) (fun o5 =>
  m_if (o5.1 = 0) (
  m_chk (x0 ∈ zL o5.2 ∧ zK o5.2 x0 = 8) (
  m_if ((zI o5.2 4 x0) = (-1 : Int32)) (
  f_X8_fitsFrom_52 x0 x1 x2 o5.2
  ) (
  m_chk (x0 ∈ zL o5.2 ∧ zK o5.2 x0 = 8) (
  m_bnd (x2 &&& (7 : Int32)) (fun v6 =>
  m_if ((zI o5.2 4 x0) = v6) (
  f_X8_fitsFrom_52 x0 x1 x2 o5.2
  ) (
  f_X8_fitsFrom_70  o5.2
  )))
  ))
  ) (
  f_X8_fitsFrom_70  o5.2
  ))))
  ) (
  f_X8_fitsFrom_70  S
  ))))))))))

set_option maxRecDepth 100000 in
set_option maxHeartbeats 4000000 in
theorem w_X8_fitsFrom_0 {p : Program} {l : Launch} {e : Env} {s : State} {m : MethodId} {args : Array Value} {below : List Frame} {meth : Method} {c : Code} {Q : State → Prop} {D : va_G} {y : Nat → ClassId} {A0 : Nat → Prop} {o : Int32 × ZS} (X : CallFix p m c cX8_fitsFrom 4 s args wsX8_fitsFrom RX8) (hret : zRi p l e ({ frames := 2, cells := 0, slots := 0, locals := 43 } : Room) s m args below meth c Q cX8_fitsFrom D y A0 .boolean o) {x0 : Nat} {x1 : Nat} {x2 : Int32} {S : ZS} {H : Heap} {locs : List Loc} {ls : Array Slot} (hf : f_X8_fitsFrom_0 x0 x1 x2 S = some o) (hM : zH D y A0 s H locs S) (hl : lv_has ls 4 [(0, .ref x0), (1, .ref x1), (2, .int x2)]) : W p l e ({ frames := 2, cells := 0, slots := 0, locals := 43 } : Room) s m args below meth c H locs 0 0 Q (F0 m 0 ls []) := by
  obtain ⟨hx, hb, hml, hown, hts⟩ := id X
  unfold f_X8_fitsFrom_0 at hf
  refine lv_aload_n hx hb dX8_fitsFrom_0 rfl (lv_at hl 1 rfl) ?_
  obtain ⟨ca, hf⟩ := m_chkE hf
  refine z_get (k := 0) (j := 0) (C := RX0) (T := TX0) (N := 7) (fl := zf_0) (v := va_rf (zP S 0 x1)) X hw_X8_fitsFrom_0 hM rfl zc_0 ca (by decide) fl_X8_fitsFrom_0_0 rfl dX8_fitsFrom_1 ?_
  clear ca
  obtain ⟨b1, hb9, hf⟩ := m_calE hf
  refine z_topr hb9 ?_
  clear hb9
  refine lv_iload_n hx hb dX8_fitsFrom_4 rfl (lv_at hl 2 rfl) ?_
  obtain ⟨ca, hf⟩ := m_chkE hf
  obtain ⟨cd, hf⟩ := m_chkE hf
  refine z_iald X hM ca cd dX8_fitsFrom_5 ?_
  clear ca cd
  obtain ⟨v2, ev, hf⟩ := m_bndE hf
  refine m_top ev ?_
  clear ev
  refine lv_aload_n hx hb dX8_fitsFrom_6 rfl (lv_at hl 0 rfl) ?_
  obtain ⟨ca, hf⟩ := m_chkE hf
  refine z_get (k := 8) (j := 3) (C := RX8) (T := TX8) (N := 12) (fl := zf_8) (v := .int (zI S 3 x0)) X hw_X8_fitsFrom_8 hM rfl zc_8 ca (by decide) fl_X8_fitsFrom_8_3 rfl dX8_fitsFrom_7 ?_
  clear ca
  refine lv_bipush (v := (8 : Int32)) hx hb dX8_fitsFrom_10 (by decide) ?_
  refine lv_aload_n hx hb dX8_fitsFrom_12 rfl (lv_at hl 1 rfl) ?_
  obtain ⟨ca, hf⟩ := m_chkE hf
  refine z_get (k := 0) (j := 3) (C := RX0) (T := TX0) (N := 7) (fl := zf_0) (v := .int (zI S 3 x1)) X hw_X8_fitsFrom_0 hM rfl zc_0 ca (by decide) fl_X8_fitsFrom_0_3 rfl dX8_fitsFrom_13 ?_
  clear ca
  refine lv_imul hx hb dX8_fitsFrom_16 ?_
  obtain ⟨v3, ev, hf⟩ := m_bndE hf
  refine m_top ev ?_
  clear ev
  refine lv_iadd hx hb dX8_fitsFrom_17 ?_
  obtain ⟨v4, ev, hf⟩ := m_bndE hf
  refine m_top ev ?_
  clear ev
  refine lv_icmp_ne (tgt := 70) hx hb dX8_fitsFrom_18 (by decide) (fun cc1 => ?_) (fun cc1 => ?_)
  · replace hf := m_ifF hf cc1
    exact w_X8_fitsFrom_70 X hret hf hM (lv_sub hl [] rfl)
  · replace hf := m_ifT hf cc1
    refine lv_aload_n hx hb dX8_fitsFrom_21 rfl (lv_at hl 1 rfl) ?_
    refine lv_iload_n hx hb dX8_fitsFrom_22 rfl (lv_at hl 2 rfl) ?_
    refine lv_aload_n hx hb dX8_fitsFrom_23 rfl (lv_at hl 0 rfl) ?_
    obtain ⟨ca, hf⟩ := m_chkE hf
    refine z_get (k := 8) (j := 6) (C := RX8) (T := TX8) (N := 12) (fl := zf_8) (v := .int (zI S 6 x0)) X hw_X8_fitsFrom_8 hM rfl zc_8 ca (by decide) fl_X8_fitsFrom_8_6 rfl dX8_fitsFrom_24 ?_
    clear ca
    obtain ⟨ca, hf⟩ := m_chkE hf
    obtain ⟨o5, ho, hf⟩ := m_calE hf
    refine z_callVi (k := 0) (C := RX0) (T := TX0) (N := 7) (fl := zf_0) X hM rfl zc_0 ca (c_X0_castles ho) gX8_fitsFrom_X0_castles rfl ⟨rfl, rfl⟩ hd_X0_castles ⟨Nat.le_of_ble_eq_true rfl, Nat.le_of_ble_eq_true rfl⟩ rfl hl.1 rfl (Nat.le_of_ble_eq_true rfl) dX8_fitsFrom_27 (fun H locs hM => ?_)
    clear ho
    refine lv_if_ne (tgt := 70) hx hb dX8_fitsFrom_30 (by decide) (fun cc1 => ?_) (fun cc1 => ?_)
    · replace hf := m_ifF hf cc1
      exact w_X8_fitsFrom_70 X hret hf hM (lv_sub hl [] rfl)
    · replace hf := m_ifT hf cc1
      refine lv_aload_n hx hb dX8_fitsFrom_33 rfl (lv_at hl 0 rfl) ?_
      obtain ⟨ca, hf⟩ := m_chkE hf
      refine z_get (k := 8) (j := 4) (C := RX8) (T := TX8) (N := 12) (fl := zf_8) (v := .int (zI o5.2 4 x0)) X hw_X8_fitsFrom_8 hM rfl zc_8 ca (by decide) fl_X8_fitsFrom_8_4 rfl dX8_fitsFrom_34 ?_
      clear ca
      refine lv_iconst (v := (-1 : Int32)) hx hb dX8_fitsFrom_37 (by decide) ?_
      refine lv_icmp_eq (tgt := 52) hx hb dX8_fitsFrom_38 (by decide) (fun cc1 => ?_) (fun cc1 => ?_)
      · replace hf := m_ifT hf cc1
        exact w_X8_fitsFrom_52 (x0 := x0) (x1 := x1) (x2 := x2) X hret hf hM (lv_sub hl [0, 1, 2] rfl)
      · replace hf := m_ifF hf cc1
        refine lv_aload_n hx hb dX8_fitsFrom_41 rfl (lv_at hl 0 rfl) ?_
        obtain ⟨ca, hf⟩ := m_chkE hf
        refine z_get (k := 8) (j := 4) (C := RX8) (T := TX8) (N := 12) (fl := zf_8) (v := .int (zI o5.2 4 x0)) X hw_X8_fitsFrom_8 hM rfl zc_8 ca (by decide) fl_X8_fitsFrom_8_4 rfl dX8_fitsFrom_42 ?_
        clear ca
        refine lv_iload_n hx hb dX8_fitsFrom_45 rfl (lv_at hl 2 rfl) ?_
        refine lv_bipush (v := (7 : Int32)) hx hb dX8_fitsFrom_46 (by decide) ?_
        refine lv_iand hx hb dX8_fitsFrom_48 ?_
        obtain ⟨v6, ev, hf⟩ := m_bndE hf
        refine m_top ev ?_
        clear ev
        refine lv_icmp_ne (tgt := 70) hx hb dX8_fitsFrom_49 (by decide) (fun cc1 => ?_) (fun cc1 => ?_)
        · replace hf := m_ifF hf cc1
          exact w_X8_fitsFrom_70 X hret hf hM (lv_sub hl [] rfl)
        · replace hf := m_ifT hf cc1
          exact w_X8_fitsFrom_52 (x0 := x0) (x1 := x1) (x2 := x2) X hret hf hM (lv_sub hl [0, 1, 2] rfl)
def f_X8_fitsFrom (x0 : Nat) (x1 : Nat) (x2 : Int32) (S : ZS) : Option (Int32 × ZS) := f_X8_fitsFrom_0 x0 x1 x2 S
theorem c_X8_fitsFrom {l : Launch} {D : va_G} {y : Nat → ClassId} {x0 : Nat} {x1 : Nat} {x2 : Int32} {S : ZS} {o : Int32 × ZS} (hf : f_X8_fitsFrom x0 x1 x2 S = some o) : zMi l yX8_fitsFrom wsX8_fitsFrom ({ frames := 2, cells := 0, slots := 0, locals := 43 } : Room) [.ref x0, .ref x1, .int x2] D y S o :=
  z_entryI (own := RX8) (cc := cX8_fitsFrom) (maxL := 4) (by decide) rfl rfl (Nat.le_of_ble_eq_true rfl) (fun p e s m args below meth c A0 Q H locs ls X hret hM hl => w_X8_fitsFrom_0 X hret hf hM (lv_sub hl [0, 1, 2] rfl))
theorem hd_X8_fitsFrom : yX8_fitsFrom.cls = RX8 ∧ yX8_fitsFrom.cls ≠ "java/lang/invoke/MethodHandle" ∧ yX8_fitsFrom.cls ≠ "java/lang/invoke/VarHandle" ∧ (parseMethodDescriptor yX8_fitsFrom.desc).map (fun d => d.parameters.length) = some 2 := by decide +kernel
theorem fl_X8_gather_0_3 : Cond.fieldLink RX8 120 "MoveTexts$Board" "side" "I" ∈ wsX8_gather := by decide +kernel
theorem fl_X8_gather_8_0 : Cond.fieldLink RX8 12 "MoveTexts$SignReader" "rules" "LMoveTexts$Rules;" ∈ wsX8_gather := by decide +kernel
theorem fl_X8_gather_8_10 : Cond.fieldLink RX8 25 "MoveTexts$SignReader" "fitting" "[I" ∈ wsX8_gather := by decide +kernel
theorem fl_X8_gather_8_11 : Cond.fieldLink RX8 41 "MoveTexts$SignReader" "fits" "I" ∈ wsX8_gather := by decide +kernel
theorem fl_X8_gather_8_2 : Cond.fieldLink RX8 86 "MoveTexts$SignReader" "castling" "I" ∈ wsX8_gather := by decide +kernel
theorem fl_X8_gather_8_6 : Cond.fieldLink RX8 100 "MoveTexts$SignReader" "to" "I" ∈ wsX8_gather := by decide +kernel
theorem fl_X8_gather_8_7 : Cond.fieldLink RX8 75 "MoveTexts$SignReader" "becomes" "I" ∈ wsX8_gather := by decide +kernel
theorem hw_X8_gather_0 : ∀ w ∈ wsX00, w ∈ wsX8_gather := by decide +kernel
theorem hw_X8_gather_8 : ∀ w ∈ wsX80, w ∈ wsX8_gather := by decide +kernel
def f_X8_gather_155 (self38 : Nat → Nat → Int32 → Int32 → ZS → Option (Int32 × ZS)) (x0 : Nat) (x1 : Nat) (x2 : Int32) (x3 : Int32) (S : ZS) : Option (Int32 × ZS) :=
  m_bnd (x3 + (1 : Int32)) (fun v1 =>
  self38 x0 x1 x2 v1 S)

set_option maxRecDepth 100000 in
set_option maxHeartbeats 4000000 in
theorem w_X8_gather_155 {p : Program} {l : Launch} {e : Env} {s : State} {m : MethodId} {args : Array Value} {below : List Frame} {meth : Method} {c : Code} {Q : State → Prop} {D : va_G} {y : Nat → ClassId} {A0 : Nat → Prop} {o : Int32 × ZS} (X : CallFix p m c cX8_gather 6 s args wsX8_gather RX8) (hret : zRv p l e ({ frames := 3, cells := 0, slots := 0, locals := 106 } : Room) s m args below meth c Q cX8_gather D y A0 o) {self38 : Nat → Nat → Int32 → Int32 → ZS → Option (Int32 × ZS)} (hself38 : ∀ (x0 : Nat) (x1 : Nat) (x2 : Int32) (x3 : Int32) (S : ZS) (H : Heap) (locs : List Loc) (ls : Array Slot), self38 x0 x1 x2 x3 S = some o → zH D y A0 s H locs S → lv_has ls 6 [(0, .ref x0), (1, .ref x1), (2, .int x2), (3, .int x3)] → W p l e ({ frames := 3, cells := 0, slots := 0, locals := 106 } : Room) s m args below meth c H locs 0 0 Q (F0 m 38 ls [])) {x0 : Nat} {x1 : Nat} {x2 : Int32} {x3 : Int32} {S : ZS} {H : Heap} {locs : List Loc} {ls : Array Slot} (hf : f_X8_gather_155 self38 x0 x1 x2 x3 S = some o) (hM : zH D y A0 s H locs S) (hl : lv_has ls 6 [(0, .ref x0), (1, .ref x1), (2, .int x2), (3, .int x3)]) : W p l e ({ frames := 3, cells := 0, slots := 0, locals := 106 } : Room) s m args below meth c H locs 0 0 Q (F0 m 155 ls []) := by
  obtain ⟨hx, hb, hml, hown, hts⟩ := id X
  unfold f_X8_gather_155 at hf
  obtain ⟨v1, ev, hf⟩ := m_bndE hf
  refine lv_iinc (v := v1) (lv' := [(3, .int v1), (0, .ref x0), (1, .ref x1), (2, .int x2)]) hx hb dX8_gather_155 hl (k := 3) rfl (by rw [ev]; rfl) (by decide) rfl (fun ls hl => ?_)
  clear ev
  refine lv_goto (tgt := 38) hx hb dX8_gather_158 (by decide) ?_
  exact hself38 x0 x1 x2 v1 _ _ _ _ hf hM (lv_sub hl [1, 2, 3, 0] rfl)
def f_X8_gather_82 (self38 : Nat → Nat → Int32 → Int32 → ZS → Option (Int32 × ZS)) (x0 : Nat) (x1 : Nat) (x2 : Int32) (x3 : Int32) (t0 : Int32) (S : ZS) : Option (Int32 × ZS) :=
  m_chk (x0 ∈ zL S ∧ zK S x0 = 8) (
  m_bnd ((64 : Int32) * (zI S 6 x0)) (fun v1 =>
  m_bnd (x3 + v1) (fun v2 =>
  m_chk (x0 ∈ zL S ∧ zK S x0 = 8) (
  m_bnd ((4096 : Int32) * (zI S 7 x0)) (fun v3 =>
  m_bnd (v2 + v3) (fun v4 =>
  m_if (t0 = 0) (
  f_X8_gather_155 self38 x0 x1 x2 x3 S
  ) (
  m_chk (x0 ∈ zL S ∧ zK S x0 = 8) (
  m_chk (x1 ∈ zL S ∧ zK S x1 = 0) (
  m_cal (f_X0_reaches x1 x3 (zI S 6 x0) S) (fun o5 =>
  m_if (o5.1 = 0) (
  f_X8_gather_155 self38 x0 x1 x2 x3 o5.2
  ) (
  m_chk (x0 ∈ zL o5.2 ∧ zK o5.2 x0 = 8) (
  m_cal (zP o5.2 0 x0) (fun b6 =>
  m_chk (b6 ∈ zL o5.2 ∧ zK o5.2 b6 = 7) (
  m_cal (f_X7_isSafe b6 x1 v4 o5.2) (fun o7 =>
  m_if (o7.1 = 0) (
  f_X8_gather_155 self38 x0 x1 x2 x3 o7.2
  ) (
  m_chk (x0 ∈ zL o7.2 ∧ zK o7.2 x0 = 8) (
  m_cal (zP o7.2 10 x0) (fun b8 =>
  m_chk (x0 ∈ zL o7.2 ∧ zK o7.2 x0 = 8) (
  m_chk (b8 ∈ zL o7.2 ∧ zK o7.2 b8 = 14) (
  m_chk (¬ ((zI o7.2 11 x0) < 0 ∨ zN o7.2 b8 ≤ ((zI o7.2 11 x0)).toNatClampNeg)) (
  m_bnd (zsA o7.2 b8 ((zI o7.2 11 x0)).toNatClampNeg v4) (fun S9 =>
  m_chk (x0 ∈ zL S9 ∧ zK S9 x0 = 8) (
  m_bnd ((zI S9 11 x0) + (1 : Int32)) (fun v10 =>
  m_chk (x0 ∈ zL S9 ∧ zK S9 x0 = 8) (
  m_bnd (zsI S9 11 x0 v10) (fun S11 =>
  f_X8_gather_155 self38 x0 x1 x2 x3 S11))))))))))
  )))))
  ))))
  )))))))

set_option maxRecDepth 100000 in
set_option maxHeartbeats 4000000 in
theorem w_X8_gather_82 {p : Program} {l : Launch} {e : Env} {s : State} {m : MethodId} {args : Array Value} {below : List Frame} {meth : Method} {c : Code} {Q : State → Prop} {D : va_G} {y : Nat → ClassId} {A0 : Nat → Prop} {o : Int32 × ZS} (X : CallFix p m c cX8_gather 6 s args wsX8_gather RX8) (hret : zRv p l e ({ frames := 3, cells := 0, slots := 0, locals := 106 } : Room) s m args below meth c Q cX8_gather D y A0 o) {self38 : Nat → Nat → Int32 → Int32 → ZS → Option (Int32 × ZS)} (hself38 : ∀ (x0 : Nat) (x1 : Nat) (x2 : Int32) (x3 : Int32) (S : ZS) (H : Heap) (locs : List Loc) (ls : Array Slot), self38 x0 x1 x2 x3 S = some o → zH D y A0 s H locs S → lv_has ls 6 [(0, .ref x0), (1, .ref x1), (2, .int x2), (3, .int x3)] → W p l e ({ frames := 3, cells := 0, slots := 0, locals := 106 } : Room) s m args below meth c H locs 0 0 Q (F0 m 38 ls [])) {x0 : Nat} {x1 : Nat} {x2 : Int32} {x3 : Int32} {t0 : Int32} {S : ZS} {H : Heap} {locs : List Loc} {ls : Array Slot} (hf : f_X8_gather_82 self38 x0 x1 x2 x3 t0 S = some o) (hM : zH D y A0 s H locs S) (hl : lv_has ls 6 [(0, .ref x0), (1, .ref x1), (2, .int x2), (3, .int x3)]) : W p l e ({ frames := 3, cells := 0, slots := 0, locals := 106 } : Room) s m args below meth c H locs 0 0 Q (F0 m 82 ls [.int t0]) := by
  obtain ⟨hx, hb, hml, hown, hts⟩ := id X
  unfold f_X8_gather_82 at hf
  refine lv_istore (lv' := [(4, .int t0), (0, .ref x0), (1, .ref x1), (2, .int x2), (3, .int x3)]) hx hb dX8_gather_82 hl (by decide) rfl (fun ls hl => ?_)
  refine lv_iload_n hx hb dX8_gather_84 rfl (lv_at hl 4 rfl) ?_
  refine lv_bipush (v := (64 : Int32)) hx hb dX8_gather_85 (by decide) ?_
  refine lv_aload_n hx hb dX8_gather_87 rfl (lv_at hl 1 rfl) ?_
  obtain ⟨ca, hf⟩ := m_chkE hf
  refine z_get (k := 8) (j := 6) (C := RX8) (T := TX8) (N := 12) (fl := zf_8) (v := .int (zI S 6 x0)) X hw_X8_gather_8 hM rfl zc_8 ca (by decide) fl_X8_gather_8_6 rfl dX8_gather_88 ?_
  clear ca
  refine lv_imul hx hb dX8_gather_91 ?_
  obtain ⟨v1, ev, hf⟩ := m_bndE hf
  refine m_top ev ?_
  clear ev
  refine lv_iadd hx hb dX8_gather_92 ?_
  obtain ⟨v2, ev, hf⟩ := m_bndE hf
  refine m_top ev ?_
  clear ev
  refine lv_sipush (v := (4096 : Int32)) hx hb dX8_gather_93 (by decide) ?_
  refine lv_aload_n hx hb dX8_gather_96 rfl (lv_at hl 1 rfl) ?_
  obtain ⟨ca, hf⟩ := m_chkE hf
  refine z_get (k := 8) (j := 7) (C := RX8) (T := TX8) (N := 12) (fl := zf_8) (v := .int (zI S 7 x0)) X hw_X8_gather_8 hM rfl zc_8 ca (by decide) fl_X8_gather_8_7 rfl dX8_gather_97 ?_
  clear ca
  refine lv_imul hx hb dX8_gather_100 ?_
  obtain ⟨v3, ev, hf⟩ := m_bndE hf
  refine m_top ev ?_
  clear ev
  refine lv_iadd hx hb dX8_gather_101 ?_
  obtain ⟨v4, ev, hf⟩ := m_bndE hf
  refine m_top ev ?_
  clear ev
  refine lv_istore (lv' := [(5, .int v4), (4, .int t0), (0, .ref x0), (1, .ref x1), (2, .int x2), (3, .int x3)]) hx hb dX8_gather_102 hl (by decide) rfl (fun ls hl => ?_)
  refine lv_iload hx hb dX8_gather_104 (lv_at hl 1 rfl) ?_
  refine lv_if_eq (tgt := 155) hx hb dX8_gather_106 (by decide) (fun cc1 => ?_) (fun cc1 => ?_)
  · replace hf := m_ifT hf cc1
    exact w_X8_gather_155 (x0 := x0) (x1 := x1) (x2 := x2) (x3 := x3) X hret hself38 hf hM (lv_sub hl [2, 3, 4, 5] rfl)
  · replace hf := m_ifF hf cc1
    refine lv_aload_n hx hb dX8_gather_109 rfl (lv_at hl 3 rfl) ?_
    refine lv_iload_n hx hb dX8_gather_110 rfl (lv_at hl 5 rfl) ?_
    refine lv_aload_n hx hb dX8_gather_111 rfl (lv_at hl 2 rfl) ?_
    obtain ⟨ca, hf⟩ := m_chkE hf
    refine z_get (k := 8) (j := 6) (C := RX8) (T := TX8) (N := 12) (fl := zf_8) (v := .int (zI S 6 x0)) X hw_X8_gather_8 hM rfl zc_8 ca (by decide) fl_X8_gather_8_6 rfl dX8_gather_112 ?_
    clear ca
    obtain ⟨ca, hf⟩ := m_chkE hf
    obtain ⟨o5, ho, hf⟩ := m_calE hf
    refine z_callVi (k := 0) (C := RX0) (T := TX0) (N := 7) (fl := zf_0) X hM rfl zc_0 ca (c_X0_reaches ho) gX8_gather_X0_reaches rfl ⟨rfl, rfl⟩ hd_X0_reaches ⟨Nat.le_of_ble_eq_true rfl, Nat.le_of_ble_eq_true rfl⟩ rfl hl.1 rfl (Nat.le_of_ble_eq_true rfl) dX8_gather_115 (fun H locs hM => ?_)
    clear ho
    refine lv_if_eq (tgt := 155) hx hb dX8_gather_118 (by decide) (fun cc1 => ?_) (fun cc1 => ?_)
    · replace hf := m_ifT hf cc1
      exact w_X8_gather_155 (x0 := x0) (x1 := x1) (x2 := x2) (x3 := x3) X hret hself38 hf hM (lv_sub hl [2, 3, 4, 5] rfl)
    · replace hf := m_ifF hf cc1
      refine lv_aload_n hx hb dX8_gather_121 rfl (lv_at hl 2 rfl) ?_
      obtain ⟨ca, hf⟩ := m_chkE hf
      refine z_get (k := 8) (j := 0) (C := RX8) (T := TX8) (N := 12) (fl := zf_8) (v := va_rf (zP o5.2 0 x0)) X hw_X8_gather_8 hM rfl zc_8 ca (by decide) fl_X8_gather_8_0 rfl dX8_gather_122 ?_
      clear ca
      obtain ⟨b6, hb9, hf⟩ := m_calE hf
      refine z_topr hb9 ?_
      clear hb9
      refine lv_aload_n hx hb dX8_gather_125 rfl (lv_at hl 3 rfl) ?_
      refine lv_iload hx hb dX8_gather_126 (lv_at hl 0 rfl) ?_
      obtain ⟨ca, hf⟩ := m_chkE hf
      obtain ⟨o7, ho, hf⟩ := m_calE hf
      refine z_callVi (k := 7) (C := RX7) (T := TX7) (N := 2) (fl := zf_7) X hM rfl zc_7 ca (c_X7_isSafe ho) gX8_gather_X7_isSafe rfl ⟨rfl, rfl⟩ hd_X7_isSafe ⟨Nat.le_of_ble_eq_true rfl, Nat.le_of_ble_eq_true rfl⟩ rfl hl.1 rfl (Nat.le_of_ble_eq_true rfl) dX8_gather_128 (fun H locs hM => ?_)
      clear ho
      refine lv_if_eq (tgt := 155) hx hb dX8_gather_131 (by decide) (fun cc1 => ?_) (fun cc1 => ?_)
      · replace hf := m_ifT hf cc1
        exact w_X8_gather_155 (x0 := x0) (x1 := x1) (x2 := x2) (x3 := x3) X hret hself38 hf hM (lv_sub hl [2, 3, 4, 5] rfl)
      · replace hf := m_ifF hf cc1
        refine lv_aload_n hx hb dX8_gather_134 rfl (lv_at hl 2 rfl) ?_
        obtain ⟨ca, hf⟩ := m_chkE hf
        refine z_get (k := 8) (j := 10) (C := RX8) (T := TX8) (N := 12) (fl := zf_8) (v := va_rf (zP o7.2 10 x0)) X hw_X8_gather_8 hM rfl zc_8 ca (by decide) fl_X8_gather_8_10 rfl dX8_gather_135 ?_
        clear ca
        obtain ⟨b8, hb9, hf⟩ := m_calE hf
        refine z_topr hb9 ?_
        clear hb9
        refine lv_aload_n hx hb dX8_gather_138 rfl (lv_at hl 2 rfl) ?_
        obtain ⟨ca, hf⟩ := m_chkE hf
        refine z_get (k := 8) (j := 11) (C := RX8) (T := TX8) (N := 12) (fl := zf_8) (v := .int (zI o7.2 11 x0)) X hw_X8_gather_8 hM rfl zc_8 ca (by decide) fl_X8_gather_8_11 rfl dX8_gather_139 ?_
        clear ca
        refine lv_iload hx hb dX8_gather_142 (lv_at hl 0 rfl) ?_
        obtain ⟨ca, hf⟩ := m_chkE hf
        obtain ⟨cd, hf⟩ := m_chkE hf
        refine z_iast X hM ca cd dX8_gather_144 (fun H locs hM => ?_)
        clear ca cd
        obtain ⟨S9, ev, hf⟩ := m_bndE hf
        replace hM := z_hS hM ev
        clear ev
        refine lv_aload_n hx hb dX8_gather_145 rfl (lv_at hl 2 rfl) ?_
        refine lv_dup hx hb dX8_gather_146 rfl ?_
        obtain ⟨ca, hf⟩ := m_chkE hf
        refine z_get (k := 8) (j := 11) (C := RX8) (T := TX8) (N := 12) (fl := zf_8) (v := .int (zI S9 11 x0)) X hw_X8_gather_8 hM rfl zc_8 ca (by decide) fl_X8_gather_8_11 rfl dX8_gather_147 ?_
        clear ca
        refine lv_iconst (v := (1 : Int32)) hx hb dX8_gather_150 (by decide) ?_
        refine lv_iadd hx hb dX8_gather_151 ?_
        obtain ⟨v10, ev, hf⟩ := m_bndE hf
        refine m_top ev ?_
        clear ev
        obtain ⟨ca, hf⟩ := m_chkE hf
        refine z_putI (k := 8) (j := 11) (C := RX8) (T := TX8) (N := 12) (fl := zf_8) (ty := .int) X hw_X8_gather_8 tyX8_ok nmX8 hM rfl zc_8 ca (by decide) fl_X8_gather_8_11 rfl (tyX8_ok 11 (by decide)) rfl rfl zi_8_11 (Nat.le_of_ble_eq_true rfl) dX8_gather_152 (fun H locs hM => ?_)
        clear ca
        obtain ⟨S11, ev, hf⟩ := m_bndE hf
        replace hM := z_hS hM ev
        clear ev
        exact w_X8_gather_155 (x0 := x0) (x1 := x1) (x2 := x2) (x3 := x3) X hret hself38 hf hM (lv_sub hl [2, 3, 4, 5] rfl)
def f_X8_gather_72 (self38 : Nat → Nat → Int32 → Int32 → ZS → Option (Int32 × ZS)) (x0 : Nat) (x1 : Nat) (x2 : Int32) (x3 : Int32) (S : ZS) : Option (Int32 × ZS) :=
  f_X8_gather_82 self38 x0 x1 x2 x3 (0 : Int32) S

set_option maxRecDepth 100000 in
set_option maxHeartbeats 4000000 in
theorem w_X8_gather_72 {p : Program} {l : Launch} {e : Env} {s : State} {m : MethodId} {args : Array Value} {below : List Frame} {meth : Method} {c : Code} {Q : State → Prop} {D : va_G} {y : Nat → ClassId} {A0 : Nat → Prop} {o : Int32 × ZS} (X : CallFix p m c cX8_gather 6 s args wsX8_gather RX8) (hret : zRv p l e ({ frames := 3, cells := 0, slots := 0, locals := 106 } : Room) s m args below meth c Q cX8_gather D y A0 o) {self38 : Nat → Nat → Int32 → Int32 → ZS → Option (Int32 × ZS)} (hself38 : ∀ (x0 : Nat) (x1 : Nat) (x2 : Int32) (x3 : Int32) (S : ZS) (H : Heap) (locs : List Loc) (ls : Array Slot), self38 x0 x1 x2 x3 S = some o → zH D y A0 s H locs S → lv_has ls 6 [(0, .ref x0), (1, .ref x1), (2, .int x2), (3, .int x3)] → W p l e ({ frames := 3, cells := 0, slots := 0, locals := 106 } : Room) s m args below meth c H locs 0 0 Q (F0 m 38 ls [])) {x0 : Nat} {x1 : Nat} {x2 : Int32} {x3 : Int32} {S : ZS} {H : Heap} {locs : List Loc} {ls : Array Slot} (hf : f_X8_gather_72 self38 x0 x1 x2 x3 S = some o) (hM : zH D y A0 s H locs S) (hl : lv_has ls 6 [(0, .ref x0), (1, .ref x1), (2, .int x2), (3, .int x3)]) : W p l e ({ frames := 3, cells := 0, slots := 0, locals := 106 } : Room) s m args below meth c H locs 0 0 Q (F0 m 72 ls []) := by
  obtain ⟨hx, hb, hml, hown, hts⟩ := id X
  unfold f_X8_gather_72 at hf
  refine lv_iconst (v := (0 : Int32)) hx hb dX8_gather_72 (by decide) ?_
  refine lv_goto (tgt := 82) hx hb dX8_gather_73 (by decide) ?_
  exact w_X8_gather_82 (x0 := x0) (x1 := x1) (x2 := x2) (x3 := x3) (t0 := (0 : Int32)) X hret hself38 hf hM (lv_sub hl [0, 1, 2, 3] rfl)
def f_X8_gather_38s (self38 : Nat → Nat → Int32 → Int32 → ZS → Option (Int32 × ZS)) (x0 : Nat) (x1 : Nat) (x2 : Int32) (x3 : Int32) (S : ZS) : Option (Int32 × ZS) :=
  m_if ((64 : Int32) ≤ x3) (
  some (0, S)
  ) (
  m_chk (x0 ∈ zL S ∧ zK S x0 = 8) (
  m_if ((zI S 2 x0) = 0) (
  m_chk (x0 ∈ zL S ∧ zK S x0 = 8) (
  m_cal (f_X8_fitsFrom x0 x1 x3 S) (fun o1 =>
  f_X8_gather_82 self38 x0 x1 x2 x3 o1.1 o1.2))
  ) (
  m_if (x3 = x2) (
  m_chk (x0 ∈ zL S ∧ zK S x0 = 8) (
  m_chk (x1 ∈ zL S ∧ zK S x1 = 0) (
  m_cal (f_X0_castles x1 x3 (zI S 6 x0) S) (fun o2 =>
  m_if (o2.1 = 0) (
  f_X8_gather_72 self38 x0 x1 x2 x3 o2.2
  ) (
  f_X8_gather_82 self38 x0 x1 x2 x3 (1 : Int32) o2.2
  ))))
  ) (
  f_X8_gather_72 self38 x0 x1 x2 x3 S
  )
  ))
  )

set_option maxRecDepth 100000 in
set_option maxHeartbeats 4000000 in
theorem ws_X8_gather_38 {p : Program} {l : Launch} {e : Env} {s : State} {m : MethodId} {args : Array Value} {below : List Frame} {meth : Method} {c : Code} {Q : State → Prop} {D : va_G} {y : Nat → ClassId} {A0 : Nat → Prop} {o : Int32 × ZS} (X : CallFix p m c cX8_gather 6 s args wsX8_gather RX8) (hret : zRv p l e ({ frames := 3, cells := 0, slots := 0, locals := 106 } : Room) s m args below meth c Q cX8_gather D y A0 o) {self38 : Nat → Nat → Int32 → Int32 → ZS → Option (Int32 × ZS)} (hself38 : ∀ (x0 : Nat) (x1 : Nat) (x2 : Int32) (x3 : Int32) (S : ZS) (H : Heap) (locs : List Loc) (ls : Array Slot), self38 x0 x1 x2 x3 S = some o → zH D y A0 s H locs S → lv_has ls 6 [(0, .ref x0), (1, .ref x1), (2, .int x2), (3, .int x3)] → W p l e ({ frames := 3, cells := 0, slots := 0, locals := 106 } : Room) s m args below meth c H locs 0 0 Q (F0 m 38 ls [])) {x0 : Nat} {x1 : Nat} {x2 : Int32} {x3 : Int32} {S : ZS} {H : Heap} {locs : List Loc} {ls : Array Slot} (hf : f_X8_gather_38s self38 x0 x1 x2 x3 S = some o) (hM : zH D y A0 s H locs S) (hl : lv_has ls 6 [(0, .ref x0), (1, .ref x1), (2, .int x2), (3, .int x3)]) : W p l e ({ frames := 3, cells := 0, slots := 0, locals := 106 } : Room) s m args below meth c H locs 0 0 Q (F0 m 38 ls []) := by
  obtain ⟨hx, hb, hml, hown, hts⟩ := id X
  unfold f_X8_gather_38s at hf
  refine lv_iload_n hx hb dX8_gather_38 rfl (lv_at hl 3 rfl) ?_
  refine lv_bipush (v := (64 : Int32)) hx hb dX8_gather_39 (by decide) ?_
  refine lv_icmp_ge (tgt := 161) hx hb dX8_gather_41 (by decide) (fun cc1 => ?_) (fun cc1 => ?_)
  · replace hf := m_ifT hf cc1
    cases hf
    exact hret H locs _ ls hM dX8_gather_161
  · replace hf := m_ifF hf cc1
    refine lv_aload_n hx hb dX8_gather_44 rfl (lv_at hl 0 rfl) ?_
    obtain ⟨ca, hf⟩ := m_chkE hf
    refine z_get (k := 8) (j := 2) (C := RX8) (T := TX8) (N := 12) (fl := zf_8) (v := .int (zI S 2 x0)) X hw_X8_gather_8 hM rfl zc_8 ca (by decide) fl_X8_gather_8_2 rfl dX8_gather_45 ?_
    clear ca
    refine lv_if_eq (tgt := 76) hx hb dX8_gather_48 (by decide) (fun cc1 => ?_) (fun cc1 => ?_)
    · replace hf := m_ifT hf cc1
      refine lv_aload_n hx hb dX8_gather_76 rfl (lv_at hl 0 rfl) ?_
      refine lv_aload_n hx hb dX8_gather_77 rfl (lv_at hl 1 rfl) ?_
      refine lv_iload_n hx hb dX8_gather_78 rfl (lv_at hl 3 rfl) ?_
      obtain ⟨ca, hf⟩ := m_chkE hf
      obtain ⟨o1, ho, hf⟩ := m_calE hf
      refine z_callVi (k := 8) (C := RX8) (T := TX8) (N := 12) (fl := zf_8) X hM rfl zc_8 ca (c_X8_fitsFrom ho) gX8_gather_X8_fitsFrom rfl ⟨rfl, rfl⟩ hd_X8_fitsFrom ⟨Nat.le_of_ble_eq_true rfl, Nat.le_of_ble_eq_true rfl⟩ rfl hl.1 rfl (Nat.le_of_ble_eq_true rfl) dX8_gather_79 (fun H locs hM => ?_)
      clear ho
      exact w_X8_gather_82 (x0 := x0) (x1 := x1) (x2 := x2) (x3 := x3) (t0 := o1.1) X hret hself38 hf hM (lv_sub hl [0, 1, 2, 3] rfl)
    · replace hf := m_ifF hf cc1
      refine lv_iload_n hx hb dX8_gather_51 rfl (lv_at hl 3 rfl) ?_
      refine lv_iload_n hx hb dX8_gather_52 rfl (lv_at hl 2 rfl) ?_
      refine lv_icmp_ne (tgt := 72) hx hb dX8_gather_53 (by decide) (fun cc1 => ?_) (fun cc1 => ?_)
      · replace hf := m_ifF hf cc1
        exact w_X8_gather_72 (x0 := x0) (x1 := x1) (x2 := x2) (x3 := x3) X hret hself38 hf hM (lv_sub hl [0, 1, 2, 3] rfl)
      · replace hf := m_ifT hf cc1
        refine lv_aload_n hx hb dX8_gather_56 rfl (lv_at hl 1 rfl) ?_
        refine lv_iload_n hx hb dX8_gather_57 rfl (lv_at hl 3 rfl) ?_
        refine lv_aload_n hx hb dX8_gather_58 rfl (lv_at hl 0 rfl) ?_
        obtain ⟨ca, hf⟩ := m_chkE hf
        refine z_get (k := 8) (j := 6) (C := RX8) (T := TX8) (N := 12) (fl := zf_8) (v := .int (zI S 6 x0)) X hw_X8_gather_8 hM rfl zc_8 ca (by decide) fl_X8_gather_8_6 rfl dX8_gather_59 ?_
        clear ca
        obtain ⟨ca, hf⟩ := m_chkE hf
        obtain ⟨o2, ho, hf⟩ := m_calE hf
        refine z_callVi (k := 0) (C := RX0) (T := TX0) (N := 7) (fl := zf_0) X hM rfl zc_0 ca (c_X0_castles ho) gX8_gather_X0_castles rfl ⟨rfl, rfl⟩ hd_X0_castles ⟨Nat.le_of_ble_eq_true rfl, Nat.le_of_ble_eq_true rfl⟩ rfl hl.1 rfl (Nat.le_of_ble_eq_true rfl) dX8_gather_62 (fun H locs hM => ?_)
        clear ho
        refine lv_if_eq (tgt := 72) hx hb dX8_gather_65 (by decide) (fun cc1 => ?_) (fun cc1 => ?_)
        · replace hf := m_ifT hf cc1
          exact w_X8_gather_72 (x0 := x0) (x1 := x1) (x2 := x2) (x3 := x3) X hret hself38 hf hM (lv_sub hl [0, 1, 2, 3] rfl)
        · replace hf := m_ifF hf cc1
          refine lv_iconst (v := (1 : Int32)) hx hb dX8_gather_68 (by decide) ?_
          refine lv_goto (tgt := 82) hx hb dX8_gather_69 (by decide) ?_
          exact w_X8_gather_82 (x0 := x0) (x1 := x1) (x2 := x2) (x3 := x3) (t0 := (1 : Int32)) X hret hself38 hf hM (lv_sub hl [0, 1, 2, 3] rfl)
def f_X8_gather_38 : Nat → Nat → Nat → Int32 → Int32 → ZS → Option (Int32 × ZS)
  | 0 => fun _ _ _ _ _ => none
  | n + 1 => f_X8_gather_38s (f_X8_gather_38 n)
theorem w_X8_gather_38 {p : Program} {l : Launch} {e : Env} {s : State} {m : MethodId} {args : Array Value} {below : List Frame} {meth : Method} {c : Code} {Q : State → Prop} {D : va_G} {y : Nat → ClassId} {A0 : Nat → Prop} {o : Int32 × ZS} (X : CallFix p m c cX8_gather 6 s args wsX8_gather RX8) (hret : zRv p l e ({ frames := 3, cells := 0, slots := 0, locals := 106 } : Room) s m args below meth c Q cX8_gather D y A0 o) (n : Nat) : ∀ (x0 : Nat) (x1 : Nat) (x2 : Int32) (x3 : Int32) (S : ZS) (H : Heap) (locs : List Loc) (ls : Array Slot), f_X8_gather_38 n x0 x1 x2 x3 S = some o → zH D y A0 s H locs S → lv_has ls 6 [(0, .ref x0), (1, .ref x1), (2, .int x2), (3, .int x3)] → W p l e ({ frames := 3, cells := 0, slots := 0, locals := 106 } : Room) s m args below meth c H locs 0 0 Q (F0 m 38 ls []) := by
  induction n with
  | zero => intro x0 x1 x2 x3 S H locs ls hf; cases hf
  | succ n ih => intro x0 x1 x2 x3 S H locs ls hf hM hl; exact ws_X8_gather_38 X hret (self38 := f_X8_gather_38 n) ih hf hM hl
def f_X8_gather_36 (x0 : Nat) (x1 : Nat) (x2 : Int32) (S : ZS) : Option (Int32 × ZS) :=
  f_X8_gather_38 mFuel x0 x1 x2 (0 : Int32) S

set_option maxRecDepth 100000 in
set_option maxHeartbeats 4000000 in
theorem w_X8_gather_36 {p : Program} {l : Launch} {e : Env} {s : State} {m : MethodId} {args : Array Value} {below : List Frame} {meth : Method} {c : Code} {Q : State → Prop} {D : va_G} {y : Nat → ClassId} {A0 : Nat → Prop} {o : Int32 × ZS} (X : CallFix p m c cX8_gather 6 s args wsX8_gather RX8) (hret : zRv p l e ({ frames := 3, cells := 0, slots := 0, locals := 106 } : Room) s m args below meth c Q cX8_gather D y A0 o) {x0 : Nat} {x1 : Nat} {x2 : Int32} {S : ZS} {H : Heap} {locs : List Loc} {ls : Array Slot} (hf : f_X8_gather_36 x0 x1 x2 S = some o) (hM : zH D y A0 s H locs S) (hl : lv_has ls 6 [(0, .ref x0), (1, .ref x1), (2, .int x2)]) : W p l e ({ frames := 3, cells := 0, slots := 0, locals := 106 } : Room) s m args below meth c H locs 0 0 Q (F0 m 36 ls []) := by
  obtain ⟨hx, hb, hml, hown, hts⟩ := id X
  unfold f_X8_gather_36 at hf
  refine lv_iconst (v := (0 : Int32)) hx hb dX8_gather_36 (by decide) ?_
  refine lv_istore_n (lv' := [(3, .int (0 : Int32)), (0, .ref x0), (1, .ref x1), (2, .int x2)]) hx hb dX8_gather_37 rfl hl (by decide) rfl (fun ls hl => ?_)
  exact w_X8_gather_38 X hret _ x0 x1 x2 (0 : Int32) _ _ _ _ hf hM (lv_sub hl [1, 2, 3, 0] rfl)
def f_X8_gather_18 (x0 : Nat) (x1 : Nat) (t0 : Int32) (S : ZS) : Option (Int32 × ZS) :=
  m_chk (x0 ∈ zL S ∧ zK S x0 = 8) (
  m_if ((zI S 2 x0) = 0) (
  f_X8_gather_36 x0 x1 t0 S
  ) (
  m_chk (x0 ∈ zL S ∧ zK S x0 = 8) (
  m_bnd (t0 + (zI S 2 x0)) (fun v1 =>
  m_chk (x0 ∈ zL S ∧ zK S x0 = 8) (
  m_bnd (zsI S 6 x0 v1) (fun S2 =>
  f_X8_gather_36 x0 x1 t0 S2))))
  ))

set_option maxRecDepth 100000 in
set_option maxHeartbeats 4000000 in
theorem w_X8_gather_18 {p : Program} {l : Launch} {e : Env} {s : State} {m : MethodId} {args : Array Value} {below : List Frame} {meth : Method} {c : Code} {Q : State → Prop} {D : va_G} {y : Nat → ClassId} {A0 : Nat → Prop} {o : Int32 × ZS} (X : CallFix p m c cX8_gather 6 s args wsX8_gather RX8) (hret : zRv p l e ({ frames := 3, cells := 0, slots := 0, locals := 106 } : Room) s m args below meth c Q cX8_gather D y A0 o) {x0 : Nat} {x1 : Nat} {t0 : Int32} {S : ZS} {H : Heap} {locs : List Loc} {ls : Array Slot} (hf : f_X8_gather_18 x0 x1 t0 S = some o) (hM : zH D y A0 s H locs S) (hl : lv_has ls 6 [(0, .ref x0), (1, .ref x1)]) : W p l e ({ frames := 3, cells := 0, slots := 0, locals := 106 } : Room) s m args below meth c H locs 0 0 Q (F0 m 18 ls [.int t0]) := by
  obtain ⟨hx, hb, hml, hown, hts⟩ := id X
  unfold f_X8_gather_18 at hf
  refine lv_istore_n (lv' := [(2, .int t0), (0, .ref x0), (1, .ref x1)]) hx hb dX8_gather_18 rfl hl (by decide) rfl (fun ls hl => ?_)
  refine lv_aload_n hx hb dX8_gather_19 rfl (lv_at hl 1 rfl) ?_
  obtain ⟨ca, hf⟩ := m_chkE hf
  refine z_get (k := 8) (j := 2) (C := RX8) (T := TX8) (N := 12) (fl := zf_8) (v := .int (zI S 2 x0)) X hw_X8_gather_8 hM rfl zc_8 ca (by decide) fl_X8_gather_8_2 rfl dX8_gather_20 ?_
  clear ca
  refine lv_if_eq (tgt := 36) hx hb dX8_gather_23 (by decide) (fun cc1 => ?_) (fun cc1 => ?_)
  · replace hf := m_ifT hf cc1
    exact w_X8_gather_36 (x0 := x0) (x1 := x1) (x2 := t0) X hret hf hM (lv_sub hl [1, 2, 0] rfl)
  · replace hf := m_ifF hf cc1
    refine lv_aload_n hx hb dX8_gather_26 rfl (lv_at hl 1 rfl) ?_
    refine lv_iload_n hx hb dX8_gather_27 rfl (lv_at hl 0 rfl) ?_
    refine lv_aload_n hx hb dX8_gather_28 rfl (lv_at hl 1 rfl) ?_
    obtain ⟨ca, hf⟩ := m_chkE hf
    refine z_get (k := 8) (j := 2) (C := RX8) (T := TX8) (N := 12) (fl := zf_8) (v := .int (zI S 2 x0)) X hw_X8_gather_8 hM rfl zc_8 ca (by decide) fl_X8_gather_8_2 rfl dX8_gather_29 ?_
    clear ca
    refine lv_iadd hx hb dX8_gather_32 ?_
    obtain ⟨v1, ev, hf⟩ := m_bndE hf
    refine m_top ev ?_
    clear ev
    obtain ⟨ca, hf⟩ := m_chkE hf
    refine z_putI (k := 8) (j := 6) (C := RX8) (T := TX8) (N := 12) (fl := zf_8) (ty := .int) X hw_X8_gather_8 tyX8_ok nmX8 hM rfl zc_8 ca (by decide) fl_X8_gather_8_6 rfl (tyX8_ok 6 (by decide)) rfl rfl zi_8_6 (Nat.le_of_ble_eq_true rfl) dX8_gather_33 (fun H locs hM => ?_)
    clear ca
    obtain ⟨S2, ev, hf⟩ := m_bndE hf
    replace hM := z_hS hM ev
    clear ev
    exact w_X8_gather_36 (x0 := x0) (x1 := x1) (x2 := t0) X hret hf hM (lv_sub hl [1, 2, 0] rfl)
def f_X8_gather_0 (x0 : Nat) (x1 : Nat) (S : ZS) : Option (Int32 × ZS) :=
  m_chk (x0 ∈ zL S ∧ zK S x0 = 8) (
  m_bnd (zsI S 11 x0 (0 : Int32)) (fun S1 =>
  m_chk (x1 ∈ zL S1 ∧ zK S1 x1 = 0) (
  m_if ((zI S1 3 x1) = 0) (
  f_X8_gather_18 x0 x1 (4 : Int32) S1
  ) (
  f_X8_gather_18 x0 x1 (60 : Int32) S1
  ))))

set_option maxRecDepth 100000 in
set_option maxHeartbeats 4000000 in
theorem w_X8_gather_0 {p : Program} {l : Launch} {e : Env} {s : State} {m : MethodId} {args : Array Value} {below : List Frame} {meth : Method} {c : Code} {Q : State → Prop} {D : va_G} {y : Nat → ClassId} {A0 : Nat → Prop} {o : Int32 × ZS} (X : CallFix p m c cX8_gather 6 s args wsX8_gather RX8) (hret : zRv p l e ({ frames := 3, cells := 0, slots := 0, locals := 106 } : Room) s m args below meth c Q cX8_gather D y A0 o) {x0 : Nat} {x1 : Nat} {S : ZS} {H : Heap} {locs : List Loc} {ls : Array Slot} (hf : f_X8_gather_0 x0 x1 S = some o) (hM : zH D y A0 s H locs S) (hl : lv_has ls 6 [(0, .ref x0), (1, .ref x1)]) : W p l e ({ frames := 3, cells := 0, slots := 0, locals := 106 } : Room) s m args below meth c H locs 0 0 Q (F0 m 0 ls []) := by
  obtain ⟨hx, hb, hml, hown, hts⟩ := id X
  unfold f_X8_gather_0 at hf
  refine lv_aload_n hx hb dX8_gather_0 rfl (lv_at hl 0 rfl) ?_
  refine lv_iconst (v := (0 : Int32)) hx hb dX8_gather_1 (by decide) ?_
  obtain ⟨ca, hf⟩ := m_chkE hf
  refine z_putI (k := 8) (j := 11) (C := RX8) (T := TX8) (N := 12) (fl := zf_8) (ty := .int) X hw_X8_gather_8 tyX8_ok nmX8 hM rfl zc_8 ca (by decide) fl_X8_gather_8_11 rfl (tyX8_ok 11 (by decide)) rfl rfl zi_8_11 (Nat.le_of_ble_eq_true rfl) dX8_gather_2 (fun H locs hM => ?_)
  clear ca
  obtain ⟨S1, ev, hf⟩ := m_bndE hf
  replace hM := z_hS hM ev
  clear ev
  refine lv_aload_n hx hb dX8_gather_5 rfl (lv_at hl 1 rfl) ?_
  obtain ⟨ca, hf⟩ := m_chkE hf
  refine z_get (k := 0) (j := 3) (C := RX0) (T := TX0) (N := 7) (fl := zf_0) (v := .int (zI S1 3 x1)) X hw_X8_gather_0 hM rfl zc_0 ca (by decide) fl_X8_gather_0_3 rfl dX8_gather_6 ?_
  clear ca
  refine lv_if_ne (tgt := 16) hx hb dX8_gather_9 (by decide) (fun cc1 => ?_) (fun cc1 => ?_)
  · replace hf := m_ifF hf cc1
    refine lv_bipush (v := (60 : Int32)) hx hb dX8_gather_16 (by decide) ?_
    exact w_X8_gather_18 (x0 := x0) (x1 := x1) (t0 := (60 : Int32)) X hret hf hM (lv_sub hl [0, 1] rfl)
  · replace hf := m_ifT hf cc1
    refine lv_iconst (v := (4 : Int32)) hx hb dX8_gather_12 (by decide) ?_
    refine lv_goto (tgt := 18) hx hb dX8_gather_13 (by decide) ?_
    exact w_X8_gather_18 (x0 := x0) (x1 := x1) (t0 := (4 : Int32)) X hret hf hM (lv_sub hl [0, 1] rfl)
def f_X8_gather (x0 : Nat) (x1 : Nat) (S : ZS) : Option (Int32 × ZS) := f_X8_gather_0 x0 x1 S
theorem c_X8_gather {l : Launch} {D : va_G} {y : Nat → ClassId} {x0 : Nat} {x1 : Nat} {S : ZS} {o : Int32 × ZS} (hf : f_X8_gather x0 x1 S = some o) : zMv l yX8_gather wsX8_gather ({ frames := 3, cells := 0, slots := 0, locals := 106 } : Room) [.ref x0, .ref x1] D y S o :=
  z_entryV (own := RX8) (cc := cX8_gather) (maxL := 6) (by decide) rfl rfl (Nat.le_of_ble_eq_true rfl) (fun p e s m args below meth c A0 Q H locs ls X hret hM hl => w_X8_gather_0 X hret hf hM (lv_sub hl [0, 1] rfl))
theorem hd_X8_gather : yX8_gather.cls = RX8 ∧ yX8_gather.cls ≠ "java/lang/invoke/MethodHandle" ∧ yX8_gather.cls ≠ "java/lang/invoke/VarHandle" ∧ (parseMethodDescriptor yX8_gather.desc).map (fun d => d.parameters.length) = some 1 := by decide +kernel
def f_X11_fileLetter_0 (x0 : Int32) (S : ZS) : Option (Int32 × ZS) :=
  m_bnd (x0 &&& (7 : Int32)) (fun v1 =>
  m_bnd ((97 : Int32) + v1) (fun v2 =>
  m_bnd ((v2.toUInt32 % 65536).toInt32) (fun v3 =>
  m_chk (vp_nar .char v3 = v3) (some (v3, S)))))

set_option maxRecDepth 100000 in
set_option maxHeartbeats 4000000 in
theorem w_X11_fileLetter_0 {p : Program} {l : Launch} {e : Env} {s : State} {m : MethodId} {args : Array Value} {below : List Frame} {meth : Method} {c : Code} {Q : State → Prop} {D : va_G} {y : Nat → ClassId} {A0 : Nat → Prop} {o : Int32 × ZS} (X : CallFix p m c cX11_fileLetter 1 s args wsX11_fileLetter RX11) (hret : zRi p l e ({ frames := 0, cells := 0, slots := 0, locals := 0 } : Room) s m args below meth c Q cX11_fileLetter D y A0 .char o) {x0 : Int32} {S : ZS} {H : Heap} {locs : List Loc} {ls : Array Slot} (hf : f_X11_fileLetter_0 x0 S = some o) (hM : zH D y A0 s H locs S) (hl : lv_has ls 1 [(0, .int x0)]) : W p l e ({ frames := 0, cells := 0, slots := 0, locals := 0 } : Room) s m args below meth c H locs 0 0 Q (F0 m 0 ls []) := by
  obtain ⟨hx, hb, hml, hown, hts⟩ := id X
  unfold f_X11_fileLetter_0 at hf
  refine lv_bipush (v := (97 : Int32)) hx hb dX11_fileLetter_0 (by decide) ?_
  refine lv_iload_n hx hb dX11_fileLetter_2 rfl (lv_at hl 0 rfl) ?_
  refine lv_bipush (v := (7 : Int32)) hx hb dX11_fileLetter_3 (by decide) ?_
  refine lv_iand hx hb dX11_fileLetter_5 ?_
  obtain ⟨v1, ev, hf⟩ := m_bndE hf
  refine m_top ev ?_
  clear ev
  refine lv_iadd hx hb dX11_fileLetter_6 ?_
  obtain ⟨v2, ev, hf⟩ := m_bndE hf
  refine m_top ev ?_
  clear ev
  refine lv_i2c (v := (v2.toUInt32 % 65536).toInt32) hx hb dX11_fileLetter_7 rfl ?_
  obtain ⟨v3, ev, hf⟩ := m_bndE hf
  refine m_top ev ?_
  clear ev
  obtain ⟨cd, hf⟩ := m_chkE hf
  cases hf
  exact hret H locs _ ls hM (m_nc cd) dX11_fileLetter_8
def f_X11_fileLetter (x0 : Int32) (S : ZS) : Option (Int32 × ZS) := f_X11_fileLetter_0 x0 S
theorem c_X11_fileLetter {l : Launch} {D : va_G} {y : Nat → ClassId} {x0 : Int32} {S : ZS} {o : Int32 × ZS} (hf : f_X11_fileLetter x0 S = some o) : zMi l yX11_fileLetter wsX11_fileLetter ({ frames := 0, cells := 0, slots := 0, locals := 0 } : Room) [.int x0] D y S o :=
  z_entryI (own := RX11) (cc := cX11_fileLetter) (maxL := 1) (by decide) rfl rfl (Nat.le_of_ble_eq_true rfl) (fun p e s m args below meth c A0 Q H locs ls X hret hM hl => w_X11_fileLetter_0 X hret hf hM (lv_sub hl [0] rfl))
theorem hd_X11_fileLetter : yX11_fileLetter.cls ≠ "java/lang/invoke/MethodHandle" ∧ yX11_fileLetter.cls ≠ "java/lang/invoke/VarHandle" ∧ (parseMethodDescriptor yX11_fileLetter.desc).map (fun d => d.parameters.length) = some 1 := by decide +kernel
def f_X11_rankDigit_0 (x0 : Int32) (S : ZS) : Option (Int32 × ZS) :=
  m_bnd (x0 >>> ((3 : Int32) &&& 31)) (fun v1 =>
  m_bnd ((49 : Int32) + v1) (fun v2 =>
  m_bnd ((v2.toUInt32 % 65536).toInt32) (fun v3 =>
  m_chk (vp_nar .char v3 = v3) (some (v3, S)))))

set_option maxRecDepth 100000 in
set_option maxHeartbeats 4000000 in
theorem w_X11_rankDigit_0 {p : Program} {l : Launch} {e : Env} {s : State} {m : MethodId} {args : Array Value} {below : List Frame} {meth : Method} {c : Code} {Q : State → Prop} {D : va_G} {y : Nat → ClassId} {A0 : Nat → Prop} {o : Int32 × ZS} (X : CallFix p m c cX11_rankDigit 1 s args wsX11_rankDigit RX11) (hret : zRi p l e ({ frames := 0, cells := 0, slots := 0, locals := 0 } : Room) s m args below meth c Q cX11_rankDigit D y A0 .char o) {x0 : Int32} {S : ZS} {H : Heap} {locs : List Loc} {ls : Array Slot} (hf : f_X11_rankDigit_0 x0 S = some o) (hM : zH D y A0 s H locs S) (hl : lv_has ls 1 [(0, .int x0)]) : W p l e ({ frames := 0, cells := 0, slots := 0, locals := 0 } : Room) s m args below meth c H locs 0 0 Q (F0 m 0 ls []) := by
  obtain ⟨hx, hb, hml, hown, hts⟩ := id X
  unfold f_X11_rankDigit_0 at hf
  refine lv_bipush (v := (49 : Int32)) hx hb dX11_rankDigit_0 (by decide) ?_
  refine lv_iload_n hx hb dX11_rankDigit_2 rfl (lv_at hl 0 rfl) ?_
  refine lv_iconst (v := (3 : Int32)) hx hb dX11_rankDigit_3 (by decide) ?_
  refine lv_ishr hx hb dX11_rankDigit_4 ?_
  obtain ⟨v1, ev, hf⟩ := m_bndE hf
  refine m_top ev ?_
  clear ev
  refine lv_iadd hx hb dX11_rankDigit_5 ?_
  obtain ⟨v2, ev, hf⟩ := m_bndE hf
  refine m_top ev ?_
  clear ev
  refine lv_i2c (v := (v2.toUInt32 % 65536).toInt32) hx hb dX11_rankDigit_6 rfl ?_
  obtain ⟨v3, ev, hf⟩ := m_bndE hf
  refine m_top ev ?_
  clear ev
  obtain ⟨cd, hf⟩ := m_chkE hf
  cases hf
  exact hret H locs _ ls hM (m_nc cd) dX11_rankDigit_7
def f_X11_rankDigit (x0 : Int32) (S : ZS) : Option (Int32 × ZS) := f_X11_rankDigit_0 x0 S
theorem c_X11_rankDigit {l : Launch} {D : va_G} {y : Nat → ClassId} {x0 : Int32} {S : ZS} {o : Int32 × ZS} (hf : f_X11_rankDigit x0 S = some o) : zMi l yX11_rankDigit wsX11_rankDigit ({ frames := 0, cells := 0, slots := 0, locals := 0 } : Room) [.int x0] D y S o :=
  z_entryI (own := RX11) (cc := cX11_rankDigit) (maxL := 1) (by decide) rfl rfl (Nat.le_of_ble_eq_true rfl) (fun p e s m args below meth c A0 Q H locs ls X hret hM hl => w_X11_rankDigit_0 X hret hf hM (lv_sub hl [0] rfl))
theorem hd_X11_rankDigit : yX11_rankDigit.cls ≠ "java/lang/invoke/MethodHandle" ∧ yX11_rankDigit.cls ≠ "java/lang/invoke/VarHandle" ∧ (parseMethodDescriptor yX11_rankDigit.desc).map (fun d => d.parameters.length) = some 1 := by decide +kernel
theorem fl_X9_putApart_0_0 : Cond.fieldLink RX9 63 "MoveTexts$Board" "men" "[I" ∈ wsX9_putApart := by decide +kernel
theorem fl_X9_putApart_9_0 : Cond.fieldLink RX9 12 "MoveTexts$SignWriter" "rules" "LMoveTexts$Rules;" ∈ wsX9_putApart := by decide +kernel
theorem hw_X9_putApart_0 : ∀ w ∈ wsX00, w ∈ wsX9_putApart := by decide +kernel
theorem hw_X9_putApart_9 : ∀ w ∈ wsX90, w ∈ wsX9_putApart := by decide +kernel
theorem nn_X9_putApart_53 : ((RX9, 53, yX11_fileLetter, "MoveTexts") ∈ zNW ∧ Cond.initialized yX11_fileLetter.cls ∈ wsX9_putApart) ∧ Cond.static yX11_fileLetter ∈ wsX9_putApart := by decide +kernel
theorem nn_X9_putApart_56 : ((RX9, 56, yX11_rankDigit, "MoveTexts") ∈ zNW ∧ Cond.initialized yX11_rankDigit.cls ∈ wsX9_putApart) ∧ Cond.static yX11_rankDigit ∈ wsX9_putApart := by decide +kernel
def g_X9_putApart_162 (Pw : Int32 → ZS → Prop) (S : ZS) (C T : Nat) : Prop :=
  Pw 0 S

set_option maxRecDepth 100000 in
set_option maxHeartbeats 4000000 in
theorem w_X9_putApart_162 {p : Program} {l : Launch} {e : Env} {s : State} {m : MethodId} {args : Array Value} {below : List Frame} {meth : Method} {c : Code} {Q : State → Prop} {D : va_G} {y : Nat → ClassId} {A0 : Nat → Prop} {kc kt : Nat} {Pw : Int32 → ZS → Prop} (X : CallFix p m c cX9_putApart 9 s args wsX9_putApart RX9) (hret : zQv p l e ({ frames := 3, cells := kc, slots := kt, locals := 106 } : Room) s m args below meth c Q cX9_putApart D y A0 Pw) {S : ZS} {C T : Nat} {H : Heap} {locs : List Loc} {ls : Array Slot} (hf : g_X9_putApart_162 Pw  S C T) (hCT : C ≤ kc ∧ T ≤ kt) (hM : zH D y A0 s H locs S) (hl : lv_has ls 9 []) : W p l e ({ frames := 3, cells := kc, slots := kt, locals := 106 } : Room) s m args below meth c H locs (kc - C) (kt - T) Q (F0 m 162 ls []) := by
  obtain ⟨hx, hb, hml, hown, hts⟩ := id X
  unfold g_X9_putApart_162 at hf
  exact hret _ _ _ H locs _ ls hf hM dX9_putApart_162
def g_X9_putApart_148 (Pw : Int32 → ZS → Prop) (x2 : Int32) (x4 : Nat) (x6 : Int32) (S : ZS) (C T : Nat) : Prop :=
  m_ifP (x6 = 0) (
  g_X9_putApart_162 Pw  S (C) (T)
  ) (
  m_calP (f_X11_rankDigit x2 S) (fun o1 =>
  m_chkP (x4 ∈ zL o1.2 ∧ zK o1.2 x4 = 6) (
  m_gal (C) (T) (fun mc ms Pw => g_X6_put x4 o1.1 o1.2 mc ms Pw) (fun r3 S4 C5 T6 =>
  g_X9_putApart_162 Pw  S4 (C5) (T6))))
  )

set_option maxRecDepth 100000 in
set_option maxHeartbeats 4000000 in
theorem w_X9_putApart_148 {p : Program} {l : Launch} {e : Env} {s : State} {m : MethodId} {args : Array Value} {below : List Frame} {meth : Method} {c : Code} {Q : State → Prop} {D : va_G} {y : Nat → ClassId} {A0 : Nat → Prop} {kc kt : Nat} {Pw : Int32 → ZS → Prop} (X : CallFix p m c cX9_putApart 9 s args wsX9_putApart RX9) (hret : zQv p l e ({ frames := 3, cells := kc, slots := kt, locals := 106 } : Room) s m args below meth c Q cX9_putApart D y A0 Pw) {x2 : Int32} {x4 : Nat} {x6 : Int32} {S : ZS} {C T : Nat} {H : Heap} {locs : List Loc} {ls : Array Slot} (hf : g_X9_putApart_148 Pw x2 x4 x6 S C T) (hCT : C ≤ kc ∧ T ≤ kt) (hM : zH D y A0 s H locs S) (hl : lv_has ls 9 [(2, .int x2), (4, .ref x4), (6, .int x6)]) : W p l e ({ frames := 3, cells := kc, slots := kt, locals := 106 } : Room) s m args below meth c H locs (kc - C) (kt - T) Q (F0 m 148 ls []) := by
  obtain ⟨hx, hb, hml, hown, hts⟩ := id X
  unfold g_X9_putApart_148 at hf
  refine lv_iload hx hb dX9_putApart_148 (lv_at hl 2 rfl) ?_
  refine lv_if_eq (tgt := 162) hx hb dX9_putApart_150 (by decide) (fun cc1 => ?_) (fun cc1 => ?_)
  · replace hf := m_ifPT hf cc1
    exact w_X9_putApart_162 X hret hf hCT hM (lv_sub hl [] rfl)
  · replace hf := m_ifPF hf cc1
    refine lv_aload hx hb dX9_putApart_153 (lv_at hl 1 rfl) ?_
    refine lv_iload_n hx hb dX9_putApart_155 rfl (lv_at hl 0 rfl) ?_
    obtain ⟨o1, ho, hf⟩ := m_calPE hf
    refine z_gcallSNi X hM (c_X11_rankDigit ho) gX9_putApart_X11_rankDigit_n56 nn_X9_putApart_56.1.1 nn_X9_putApart_56.1.2 nn_X9_putApart_56.2 rfl ⟨rfl, rfl⟩ hd_X11_rankDigit ⟨Nat.le_of_ble_eq_true rfl, Nat.le_of_ble_eq_true rfl⟩ rfl hl.1 rfl ⟨Nat.sub_le _ _, Nat.sub_le _ _⟩ (Nat.le_of_ble_eq_true rfl) dX9_putApart_156 (fun H locs hM => ?_)
    clear ho
    obtain ⟨ca, hf⟩ := m_chkPE hf
    obtain ⟨mc, ms, hcm, ho⟩ := m_galE hf
    refine z_wcallVv (k := 6) (C := RX6) (T := TX6) (N := 2) (fl := zf_6) X hM rfl zc_6 ca (c_X6_put ho) gX9_putApart_X6_put rfl ⟨rfl, rfl⟩ ⟨by show kc - (C) + mc ≤ kc; omega, by show kt - (T) + ms ≤ kt; omega⟩ hd_X6_put ⟨Nat.le_of_ble_eq_true rfl, Nat.le_of_ble_eq_true rfl⟩ rfl hl.1 rfl (Nat.le_of_ble_eq_true rfl) dX9_putApart_159 (fun S4 H locs hf hM => ?_)
    refine z_eqCS (c2 := kc - (C - mc)) (t2 := kt - (T - ms)) (by omega) (by omega) ?_
    replace hCT : C - mc ≤ kc ∧ T - ms ≤ kt := by omega
    generalize C - mc = C5 at hf hCT ⊢
    generalize T - ms = T6 at hf hCT ⊢
    clear ho hcm
    exact w_X9_putApart_162 X hret hf hCT hM (lv_sub hl [] rfl)
def g_X9_putApart_139 (Pw : Int32 → ZS → Prop) (x2 : Int32) (x4 : Nat) (x6 : Int32) (S : ZS) (C T : Nat) : Prop :=
  m_calP (f_X11_fileLetter x2 S) (fun o1 =>
  m_chkP (x4 ∈ zL o1.2 ∧ zK o1.2 x4 = 6) (
  m_gal (C) (T) (fun mc ms Pw => g_X6_put x4 o1.1 o1.2 mc ms Pw) (fun r3 S4 C5 T6 =>
  g_X9_putApart_148 Pw x2 x4 x6 S4 (C5) (T6))))

set_option maxRecDepth 100000 in
set_option maxHeartbeats 4000000 in
theorem w_X9_putApart_139 {p : Program} {l : Launch} {e : Env} {s : State} {m : MethodId} {args : Array Value} {below : List Frame} {meth : Method} {c : Code} {Q : State → Prop} {D : va_G} {y : Nat → ClassId} {A0 : Nat → Prop} {kc kt : Nat} {Pw : Int32 → ZS → Prop} (X : CallFix p m c cX9_putApart 9 s args wsX9_putApart RX9) (hret : zQv p l e ({ frames := 3, cells := kc, slots := kt, locals := 106 } : Room) s m args below meth c Q cX9_putApart D y A0 Pw) {x2 : Int32} {x4 : Nat} {x6 : Int32} {S : ZS} {C T : Nat} {H : Heap} {locs : List Loc} {ls : Array Slot} (hf : g_X9_putApart_139 Pw x2 x4 x6 S C T) (hCT : C ≤ kc ∧ T ≤ kt) (hM : zH D y A0 s H locs S) (hl : lv_has ls 9 [(2, .int x2), (4, .ref x4), (6, .int x6)]) : W p l e ({ frames := 3, cells := kc, slots := kt, locals := 106 } : Room) s m args below meth c H locs (kc - C) (kt - T) Q (F0 m 139 ls []) := by
  obtain ⟨hx, hb, hml, hown, hts⟩ := id X
  unfold g_X9_putApart_139 at hf
  refine lv_aload hx hb dX9_putApart_139 (lv_at hl 1 rfl) ?_
  refine lv_iload_n hx hb dX9_putApart_141 rfl (lv_at hl 0 rfl) ?_
  obtain ⟨o1, ho, hf⟩ := m_calPE hf
  refine z_gcallSNi X hM (c_X11_fileLetter ho) gX9_putApart_X11_fileLetter_n53 nn_X9_putApart_53.1.1 nn_X9_putApart_53.1.2 nn_X9_putApart_53.2 rfl ⟨rfl, rfl⟩ hd_X11_fileLetter ⟨Nat.le_of_ble_eq_true rfl, Nat.le_of_ble_eq_true rfl⟩ rfl hl.1 rfl ⟨Nat.sub_le _ _, Nat.sub_le _ _⟩ (Nat.le_of_ble_eq_true rfl) dX9_putApart_142 (fun H locs hM => ?_)
  clear ho
  obtain ⟨ca, hf⟩ := m_chkPE hf
  obtain ⟨mc, ms, hcm, ho⟩ := m_galE hf
  refine z_wcallVv (k := 6) (C := RX6) (T := TX6) (N := 2) (fl := zf_6) X hM rfl zc_6 ca (c_X6_put ho) gX9_putApart_X6_put rfl ⟨rfl, rfl⟩ ⟨by show kc - (C) + mc ≤ kc; omega, by show kt - (T) + ms ≤ kt; omega⟩ hd_X6_put ⟨Nat.le_of_ble_eq_true rfl, Nat.le_of_ble_eq_true rfl⟩ rfl hl.1 rfl (Nat.le_of_ble_eq_true rfl) dX9_putApart_145 (fun S4 H locs hf hM => ?_)
  refine z_eqCS (c2 := kc - (C - mc)) (t2 := kt - (T - ms)) (by omega) (by omega) ?_
  replace hCT : C - mc ≤ kc ∧ T - ms ≤ kt := by omega
  generalize C - mc = C5 at hf hCT ⊢
  generalize T - ms = T6 at hf hCT ⊢
  clear ho hcm
  exact w_X9_putApart_148 (x2 := x2) (x4 := x4) (x6 := x6) X hret hf hCT hM (lv_sub hl [0, 1, 2] rfl)
def g_X9_putApart_118 (Pw : Int32 → ZS → Prop) (self12 : Nat → Nat → Int32 → Int32 → Nat → Int32 → Int32 → Int32 → Int32 → ZS → Nat → Nat → Prop) (x0 : Nat) (x1 : Nat) (x2 : Int32) (x3 : Int32) (x4 : Nat) (x5 : Int32) (x6 : Int32) (x7 : Int32) (x8 : Int32) (S : ZS) (C T : Nat) : Prop :=
  m_bndP (x8 + (1 : Int32)) (fun v1 =>
  self12 x0 x1 x2 x3 x4 x5 x6 x7 v1 S (C) (T))

set_option maxRecDepth 100000 in
set_option maxHeartbeats 4000000 in
theorem w_X9_putApart_118 {p : Program} {l : Launch} {e : Env} {s : State} {m : MethodId} {args : Array Value} {below : List Frame} {meth : Method} {c : Code} {Q : State → Prop} {D : va_G} {y : Nat → ClassId} {A0 : Nat → Prop} {kc kt : Nat} {Pw : Int32 → ZS → Prop} (X : CallFix p m c cX9_putApart 9 s args wsX9_putApart RX9) (hret : zQv p l e ({ frames := 3, cells := kc, slots := kt, locals := 106 } : Room) s m args below meth c Q cX9_putApart D y A0 Pw) {self12 : Nat → Nat → Int32 → Int32 → Nat → Int32 → Int32 → Int32 → Int32 → ZS → Nat → Nat → Prop} (hself12 : ∀ (x0 : Nat) (x1 : Nat) (x2 : Int32) (x3 : Int32) (x4 : Nat) (x5 : Int32) (x6 : Int32) (x7 : Int32) (x8 : Int32) (S : ZS) (C T : Nat) (H : Heap) (locs : List Loc) (ls : Array Slot), self12 x0 x1 x2 x3 x4 x5 x6 x7 x8 S C T → C ≤ kc ∧ T ≤ kt → zH D y A0 s H locs S → lv_has ls 9 [(0, .ref x0), (1, .ref x1), (2, .int x2), (3, .int x3), (4, .ref x4), (5, .int x5), (6, .int x6), (7, .int x7), (8, .int x8)] → W p l e ({ frames := 3, cells := kc, slots := kt, locals := 106 } : Room) s m args below meth c H locs (kc - C) (kt - T) Q (F0 m 12 ls [])) {x0 : Nat} {x1 : Nat} {x2 : Int32} {x3 : Int32} {x4 : Nat} {x5 : Int32} {x6 : Int32} {x7 : Int32} {x8 : Int32} {S : ZS} {C T : Nat} {H : Heap} {locs : List Loc} {ls : Array Slot} (hf : g_X9_putApart_118 Pw self12 x0 x1 x2 x3 x4 x5 x6 x7 x8 S C T) (hCT : C ≤ kc ∧ T ≤ kt) (hM : zH D y A0 s H locs S) (hl : lv_has ls 9 [(0, .ref x0), (1, .ref x1), (2, .int x2), (3, .int x3), (4, .ref x4), (5, .int x5), (6, .int x6), (7, .int x7), (8, .int x8)]) : W p l e ({ frames := 3, cells := kc, slots := kt, locals := 106 } : Room) s m args below meth c H locs (kc - C) (kt - T) Q (F0 m 118 ls []) := by
  obtain ⟨hx, hb, hml, hown, hts⟩ := id X
  unfold g_X9_putApart_118 at hf
  obtain ⟨v1, ev, hf⟩ := m_bndPE hf
  refine lv_iinc (v := v1) (lv' := [(8, .int v1), (0, .ref x0), (1, .ref x1), (2, .int x2), (3, .int x3), (4, .ref x4), (5, .int x5), (6, .int x6), (7, .int x7)]) hx hb dX9_putApart_118 hl (k := 8) rfl (by rw [ev]; rfl) (by decide) rfl (fun ls hl => ?_)
  clear ev
  refine lv_goto (tgt := 12) hx hb dX9_putApart_121 (by decide) ?_
  exact hself12 x0 x1 x2 x3 x4 x5 x6 x7 v1 _ _ _ _ _ _ hf hCT hM (lv_sub hl [1, 2, 3, 4, 5, 6, 7, 8, 0] rfl)
def g_X9_putApart_116 (Pw : Int32 → ZS → Prop) (self12 : Nat → Nat → Int32 → Int32 → Nat → Int32 → Int32 → Int32 → Int32 → ZS → Nat → Nat → Prop) (x0 : Nat) (x1 : Nat) (x2 : Int32) (x3 : Int32) (x4 : Nat) (x5 : Int32) (x6 : Int32) (x8 : Int32) (t0 : Int32) (S : ZS) (C T : Nat) : Prop :=
  g_X9_putApart_118 Pw self12 x0 x1 x2 x3 x4 x5 x6 t0 x8 S (C) (T)

set_option maxRecDepth 100000 in
set_option maxHeartbeats 4000000 in
theorem w_X9_putApart_116 {p : Program} {l : Launch} {e : Env} {s : State} {m : MethodId} {args : Array Value} {below : List Frame} {meth : Method} {c : Code} {Q : State → Prop} {D : va_G} {y : Nat → ClassId} {A0 : Nat → Prop} {kc kt : Nat} {Pw : Int32 → ZS → Prop} (X : CallFix p m c cX9_putApart 9 s args wsX9_putApart RX9) (hret : zQv p l e ({ frames := 3, cells := kc, slots := kt, locals := 106 } : Room) s m args below meth c Q cX9_putApart D y A0 Pw) {self12 : Nat → Nat → Int32 → Int32 → Nat → Int32 → Int32 → Int32 → Int32 → ZS → Nat → Nat → Prop} (hself12 : ∀ (x0 : Nat) (x1 : Nat) (x2 : Int32) (x3 : Int32) (x4 : Nat) (x5 : Int32) (x6 : Int32) (x7 : Int32) (x8 : Int32) (S : ZS) (C T : Nat) (H : Heap) (locs : List Loc) (ls : Array Slot), self12 x0 x1 x2 x3 x4 x5 x6 x7 x8 S C T → C ≤ kc ∧ T ≤ kt → zH D y A0 s H locs S → lv_has ls 9 [(0, .ref x0), (1, .ref x1), (2, .int x2), (3, .int x3), (4, .ref x4), (5, .int x5), (6, .int x6), (7, .int x7), (8, .int x8)] → W p l e ({ frames := 3, cells := kc, slots := kt, locals := 106 } : Room) s m args below meth c H locs (kc - C) (kt - T) Q (F0 m 12 ls [])) {x0 : Nat} {x1 : Nat} {x2 : Int32} {x3 : Int32} {x4 : Nat} {x5 : Int32} {x6 : Int32} {x8 : Int32} {t0 : Int32} {S : ZS} {C T : Nat} {H : Heap} {locs : List Loc} {ls : Array Slot} (hf : g_X9_putApart_116 Pw self12 x0 x1 x2 x3 x4 x5 x6 x8 t0 S C T) (hCT : C ≤ kc ∧ T ≤ kt) (hM : zH D y A0 s H locs S) (hl : lv_has ls 9 [(0, .ref x0), (1, .ref x1), (2, .int x2), (3, .int x3), (4, .ref x4), (5, .int x5), (6, .int x6), (8, .int x8)]) : W p l e ({ frames := 3, cells := kc, slots := kt, locals := 106 } : Room) s m args below meth c H locs (kc - C) (kt - T) Q (F0 m 116 ls [.int t0]) := by
  obtain ⟨hx, hb, hml, hown, hts⟩ := id X
  unfold g_X9_putApart_116 at hf
  refine lv_istore (lv' := [(7, .int t0), (0, .ref x0), (1, .ref x1), (2, .int x2), (3, .int x3), (4, .ref x4), (5, .int x5), (6, .int x6), (8, .int x8)]) hx hb dX9_putApart_116 hl (by decide) rfl (fun ls hl => ?_)
  exact w_X9_putApart_118 (x0 := x0) (x1 := x1) (x2 := x2) (x3 := x3) (x4 := x4) (x5 := x5) (x6 := x6) (x7 := t0) (x8 := x8) X hret hself12 hf hCT hM (lv_sub hl [1, 2, 3, 4, 5, 6, 7, 0, 8] rfl)
def g_X9_putApart_111 (Pw : Int32 → ZS → Prop) (self12 : Nat → Nat → Int32 → Int32 → Nat → Int32 → Int32 → Int32 → Int32 → ZS → Nat → Nat → Prop) (x0 : Nat) (x1 : Nat) (x2 : Int32) (x3 : Int32) (x4 : Nat) (x5 : Int32) (x6 : Int32) (x8 : Int32) (S : ZS) (C T : Nat) : Prop :=
  g_X9_putApart_116 Pw self12 x0 x1 x2 x3 x4 x5 x6 x8 (1 : Int32) S (C) (T)

set_option maxRecDepth 100000 in
set_option maxHeartbeats 4000000 in
theorem w_X9_putApart_111 {p : Program} {l : Launch} {e : Env} {s : State} {m : MethodId} {args : Array Value} {below : List Frame} {meth : Method} {c : Code} {Q : State → Prop} {D : va_G} {y : Nat → ClassId} {A0 : Nat → Prop} {kc kt : Nat} {Pw : Int32 → ZS → Prop} (X : CallFix p m c cX9_putApart 9 s args wsX9_putApart RX9) (hret : zQv p l e ({ frames := 3, cells := kc, slots := kt, locals := 106 } : Room) s m args below meth c Q cX9_putApart D y A0 Pw) {self12 : Nat → Nat → Int32 → Int32 → Nat → Int32 → Int32 → Int32 → Int32 → ZS → Nat → Nat → Prop} (hself12 : ∀ (x0 : Nat) (x1 : Nat) (x2 : Int32) (x3 : Int32) (x4 : Nat) (x5 : Int32) (x6 : Int32) (x7 : Int32) (x8 : Int32) (S : ZS) (C T : Nat) (H : Heap) (locs : List Loc) (ls : Array Slot), self12 x0 x1 x2 x3 x4 x5 x6 x7 x8 S C T → C ≤ kc ∧ T ≤ kt → zH D y A0 s H locs S → lv_has ls 9 [(0, .ref x0), (1, .ref x1), (2, .int x2), (3, .int x3), (4, .ref x4), (5, .int x5), (6, .int x6), (7, .int x7), (8, .int x8)] → W p l e ({ frames := 3, cells := kc, slots := kt, locals := 106 } : Room) s m args below meth c H locs (kc - C) (kt - T) Q (F0 m 12 ls [])) {x0 : Nat} {x1 : Nat} {x2 : Int32} {x3 : Int32} {x4 : Nat} {x5 : Int32} {x6 : Int32} {x8 : Int32} {S : ZS} {C T : Nat} {H : Heap} {locs : List Loc} {ls : Array Slot} (hf : g_X9_putApart_111 Pw self12 x0 x1 x2 x3 x4 x5 x6 x8 S C T) (hCT : C ≤ kc ∧ T ≤ kt) (hM : zH D y A0 s H locs S) (hl : lv_has ls 9 [(0, .ref x0), (1, .ref x1), (2, .int x2), (3, .int x3), (4, .ref x4), (5, .int x5), (6, .int x6), (8, .int x8)]) : W p l e ({ frames := 3, cells := kc, slots := kt, locals := 106 } : Room) s m args below meth c H locs (kc - C) (kt - T) Q (F0 m 111 ls []) := by
  obtain ⟨hx, hb, hml, hown, hts⟩ := id X
  unfold g_X9_putApart_111 at hf
  refine lv_iconst (v := (1 : Int32)) hx hb dX9_putApart_111 (by decide) ?_
  refine lv_goto (tgt := 116) hx hb dX9_putApart_112 (by decide) ?_
  exact w_X9_putApart_116 (x0 := x0) (x1 := x1) (x2 := x2) (x3 := x3) (x4 := x4) (x5 := x5) (x6 := x6) (x8 := x8) (t0 := (1 : Int32)) X hret hself12 hf hCT hM (lv_sub hl [0, 1, 2, 3, 4, 5, 6, 7] rfl)
def g_X9_putApart_94 (Pw : Int32 → ZS → Prop) (self12 : Nat → Nat → Int32 → Int32 → Nat → Int32 → Int32 → Int32 → Int32 → ZS → Nat → Nat → Prop) (x0 : Nat) (x1 : Nat) (x2 : Int32) (x3 : Int32) (x4 : Nat) (x5 : Int32) (x7 : Int32) (x8 : Int32) (t0 : Int32) (S : ZS) (C T : Nat) : Prop :=
  m_ifP (x7 = 0) (
  m_bndP (x8 >>> ((3 : Int32) &&& 31)) (fun v1 =>
  m_bndP (x2 >>> ((3 : Int32) &&& 31)) (fun v2 =>
  m_ifP (v1 = v2) (
  g_X9_putApart_111 Pw self12 x0 x1 x2 x3 x4 x5 t0 x8 S (C) (T)
  ) (
  g_X9_putApart_116 Pw self12 x0 x1 x2 x3 x4 x5 t0 x8 (0 : Int32) S (C) (T)
  )))
  ) (
  g_X9_putApart_111 Pw self12 x0 x1 x2 x3 x4 x5 t0 x8 S (C) (T)
  )

set_option maxRecDepth 100000 in
set_option maxHeartbeats 4000000 in
theorem w_X9_putApart_94 {p : Program} {l : Launch} {e : Env} {s : State} {m : MethodId} {args : Array Value} {below : List Frame} {meth : Method} {c : Code} {Q : State → Prop} {D : va_G} {y : Nat → ClassId} {A0 : Nat → Prop} {kc kt : Nat} {Pw : Int32 → ZS → Prop} (X : CallFix p m c cX9_putApart 9 s args wsX9_putApart RX9) (hret : zQv p l e ({ frames := 3, cells := kc, slots := kt, locals := 106 } : Room) s m args below meth c Q cX9_putApart D y A0 Pw) {self12 : Nat → Nat → Int32 → Int32 → Nat → Int32 → Int32 → Int32 → Int32 → ZS → Nat → Nat → Prop} (hself12 : ∀ (x0 : Nat) (x1 : Nat) (x2 : Int32) (x3 : Int32) (x4 : Nat) (x5 : Int32) (x6 : Int32) (x7 : Int32) (x8 : Int32) (S : ZS) (C T : Nat) (H : Heap) (locs : List Loc) (ls : Array Slot), self12 x0 x1 x2 x3 x4 x5 x6 x7 x8 S C T → C ≤ kc ∧ T ≤ kt → zH D y A0 s H locs S → lv_has ls 9 [(0, .ref x0), (1, .ref x1), (2, .int x2), (3, .int x3), (4, .ref x4), (5, .int x5), (6, .int x6), (7, .int x7), (8, .int x8)] → W p l e ({ frames := 3, cells := kc, slots := kt, locals := 106 } : Room) s m args below meth c H locs (kc - C) (kt - T) Q (F0 m 12 ls [])) {x0 : Nat} {x1 : Nat} {x2 : Int32} {x3 : Int32} {x4 : Nat} {x5 : Int32} {x7 : Int32} {x8 : Int32} {t0 : Int32} {S : ZS} {C T : Nat} {H : Heap} {locs : List Loc} {ls : Array Slot} (hf : g_X9_putApart_94 Pw self12 x0 x1 x2 x3 x4 x5 x7 x8 t0 S C T) (hCT : C ≤ kc ∧ T ≤ kt) (hM : zH D y A0 s H locs S) (hl : lv_has ls 9 [(0, .ref x0), (1, .ref x1), (2, .int x2), (3, .int x3), (4, .ref x4), (5, .int x5), (7, .int x7), (8, .int x8)]) : W p l e ({ frames := 3, cells := kc, slots := kt, locals := 106 } : Room) s m args below meth c H locs (kc - C) (kt - T) Q (F0 m 94 ls [.int t0]) := by
  obtain ⟨hx, hb, hml, hown, hts⟩ := id X
  unfold g_X9_putApart_94 at hf
  refine lv_istore (lv' := [(6, .int t0), (0, .ref x0), (1, .ref x1), (2, .int x2), (3, .int x3), (4, .ref x4), (5, .int x5), (7, .int x7), (8, .int x8)]) hx hb dX9_putApart_94 hl (by decide) rfl (fun ls hl => ?_)
  refine lv_iload hx hb dX9_putApart_96 (lv_at hl 7 rfl) ?_
  refine lv_if_ne (tgt := 111) hx hb dX9_putApart_98 (by decide) (fun cc1 => ?_) (fun cc1 => ?_)
  · replace hf := m_ifPF hf cc1
    exact w_X9_putApart_111 (x0 := x0) (x1 := x1) (x2 := x2) (x3 := x3) (x4 := x4) (x5 := x5) (x6 := t0) (x8 := x8) X hret hself12 hf hCT hM (lv_sub hl [1, 2, 3, 4, 5, 6, 0, 8] rfl)
  · replace hf := m_ifPT hf cc1
    refine lv_iload hx hb dX9_putApart_101 (lv_at hl 8 rfl) ?_
    refine lv_iconst (v := (3 : Int32)) hx hb dX9_putApart_103 (by decide) ?_
    refine lv_ishr hx hb dX9_putApart_104 ?_
    obtain ⟨v1, ev, hf⟩ := m_bndPE hf
    refine m_top ev ?_
    clear ev
    refine lv_iload_n hx hb dX9_putApart_105 rfl (lv_at hl 3 rfl) ?_
    refine lv_iconst (v := (3 : Int32)) hx hb dX9_putApart_106 (by decide) ?_
    refine lv_ishr hx hb dX9_putApart_107 ?_
    obtain ⟨v2, ev, hf⟩ := m_bndPE hf
    refine m_top ev ?_
    clear ev
    refine lv_icmp_ne (tgt := 115) hx hb dX9_putApart_108 (by decide) (fun cc1 => ?_) (fun cc1 => ?_)
    · replace hf := m_ifPF hf cc1
      refine lv_iconst (v := (0 : Int32)) hx hb dX9_putApart_115 (by decide) ?_
      exact w_X9_putApart_116 (x0 := x0) (x1 := x1) (x2 := x2) (x3 := x3) (x4 := x4) (x5 := x5) (x6 := t0) (x8 := x8) (t0 := (0 : Int32)) X hret hself12 hf hCT hM (lv_sub hl [1, 2, 3, 4, 5, 6, 0, 8] rfl)
    · replace hf := m_ifPT hf cc1
      exact w_X9_putApart_111 (x0 := x0) (x1 := x1) (x2 := x2) (x3 := x3) (x4 := x4) (x5 := x5) (x6 := t0) (x8 := x8) X hret hself12 hf hCT hM (lv_sub hl [1, 2, 3, 4, 5, 6, 0, 8] rfl)
def g_X9_putApart_89 (Pw : Int32 → ZS → Prop) (self12 : Nat → Nat → Int32 → Int32 → Nat → Int32 → Int32 → Int32 → Int32 → ZS → Nat → Nat → Prop) (x0 : Nat) (x1 : Nat) (x2 : Int32) (x3 : Int32) (x4 : Nat) (x5 : Int32) (x7 : Int32) (x8 : Int32) (S : ZS) (C T : Nat) : Prop :=
  g_X9_putApart_94 Pw self12 x0 x1 x2 x3 x4 x5 x7 x8 (1 : Int32) S (C) (T)

set_option maxRecDepth 100000 in
set_option maxHeartbeats 4000000 in
theorem w_X9_putApart_89 {p : Program} {l : Launch} {e : Env} {s : State} {m : MethodId} {args : Array Value} {below : List Frame} {meth : Method} {c : Code} {Q : State → Prop} {D : va_G} {y : Nat → ClassId} {A0 : Nat → Prop} {kc kt : Nat} {Pw : Int32 → ZS → Prop} (X : CallFix p m c cX9_putApart 9 s args wsX9_putApart RX9) (hret : zQv p l e ({ frames := 3, cells := kc, slots := kt, locals := 106 } : Room) s m args below meth c Q cX9_putApart D y A0 Pw) {self12 : Nat → Nat → Int32 → Int32 → Nat → Int32 → Int32 → Int32 → Int32 → ZS → Nat → Nat → Prop} (hself12 : ∀ (x0 : Nat) (x1 : Nat) (x2 : Int32) (x3 : Int32) (x4 : Nat) (x5 : Int32) (x6 : Int32) (x7 : Int32) (x8 : Int32) (S : ZS) (C T : Nat) (H : Heap) (locs : List Loc) (ls : Array Slot), self12 x0 x1 x2 x3 x4 x5 x6 x7 x8 S C T → C ≤ kc ∧ T ≤ kt → zH D y A0 s H locs S → lv_has ls 9 [(0, .ref x0), (1, .ref x1), (2, .int x2), (3, .int x3), (4, .ref x4), (5, .int x5), (6, .int x6), (7, .int x7), (8, .int x8)] → W p l e ({ frames := 3, cells := kc, slots := kt, locals := 106 } : Room) s m args below meth c H locs (kc - C) (kt - T) Q (F0 m 12 ls [])) {x0 : Nat} {x1 : Nat} {x2 : Int32} {x3 : Int32} {x4 : Nat} {x5 : Int32} {x7 : Int32} {x8 : Int32} {S : ZS} {C T : Nat} {H : Heap} {locs : List Loc} {ls : Array Slot} (hf : g_X9_putApart_89 Pw self12 x0 x1 x2 x3 x4 x5 x7 x8 S C T) (hCT : C ≤ kc ∧ T ≤ kt) (hM : zH D y A0 s H locs S) (hl : lv_has ls 9 [(0, .ref x0), (1, .ref x1), (2, .int x2), (3, .int x3), (4, .ref x4), (5, .int x5), (7, .int x7), (8, .int x8)]) : W p l e ({ frames := 3, cells := kc, slots := kt, locals := 106 } : Room) s m args below meth c H locs (kc - C) (kt - T) Q (F0 m 89 ls []) := by
  obtain ⟨hx, hb, hml, hown, hts⟩ := id X
  unfold g_X9_putApart_89 at hf
  refine lv_iconst (v := (1 : Int32)) hx hb dX9_putApart_89 (by decide) ?_
  refine lv_goto (tgt := 94) hx hb dX9_putApart_90 (by decide) ?_
  exact w_X9_putApart_94 (x0 := x0) (x1 := x1) (x2 := x2) (x3 := x3) (x4 := x4) (x5 := x5) (x7 := x7) (x8 := x8) (t0 := (1 : Int32)) X hret hself12 hf hCT hM (lv_sub hl [0, 1, 2, 3, 4, 5, 6, 7] rfl)
def g_X9_putApart_12s (Pw : Int32 → ZS → Prop) (self12 : Nat → Nat → Int32 → Int32 → Nat → Int32 → Int32 → Int32 → Int32 → ZS → Nat → Nat → Prop) (x0 : Nat) (x1 : Nat) (x2 : Int32) (x3 : Int32) (x4 : Nat) (x5 : Int32) (x6 : Int32) (x7 : Int32) (x8 : Int32) (S : ZS) (C T : Nat) : Prop :=
  m_ifP ((64 : Int32) ≤ x8) (
  m_ifP (x5 = 0) (
  g_X9_putApart_148 Pw x2 x4 x6 S (C) (T)
  ) (
  m_ifP (x6 = 0) (
  g_X9_putApart_139 Pw x2 x4 x6 S (C) (T)
  ) (
  m_ifP (x7 = 0) (
  g_X9_putApart_148 Pw x2 x4 x6 S (C) (T)
  ) (
  g_X9_putApart_139 Pw x2 x4 x6 S (C) (T)
  )
  )
  )
  ) (
  m_ifP (x8 = x2) (
  g_X9_putApart_118 Pw self12 x0 x1 x2 x3 x4 x5 x6 x7 x8 S (C) (T)
  ) (
  m_chkP (x1 ∈ zL S ∧ zK S x1 = 0) (
  m_calP (zP S 0 x1) (fun b1 =>
  m_chkP (b1 ∈ zL S ∧ zK S b1 = 14) (
  m_chkP (¬ (x8 < 0 ∨ zN S b1 ≤ (x8).toNatClampNeg)) (
  m_bndP (zA S b1 (x8).toNatClampNeg) (fun v2 =>
  m_chkP (x1 ∈ zL S ∧ zK S x1 = 0) (
  m_calP (zP S 0 x1) (fun b3 =>
  m_chkP (b3 ∈ zL S ∧ zK S b3 = 14) (
  m_chkP (¬ (x2 < 0 ∨ zN S b3 ≤ (x2).toNatClampNeg)) (
  m_bndP (zA S b3 (x2).toNatClampNeg) (fun v4 =>
  m_ifP (v2 = v4) (
  m_chkP (x1 ∈ zL S ∧ zK S x1 = 0) (
  m_calP (f_X0_reaches x1 x8 x3 S) (fun o5 =>
  m_ifP (o5.1 = 0) (
  g_X9_putApart_118 Pw self12 x0 x1 x2 x3 x4 x5 x6 x7 x8 o5.2 (C) (T)
  ) (
  m_chkP (x0 ∈ zL o5.2 ∧ zK o5.2 x0 = 9) (
  m_calP (zP o5.2 0 x0) (fun b6 =>
  m_bndP ((64 : Int32) * x3) (fun v7 =>
  m_bndP (x8 + v7) (fun v8 =>
  m_chkP (b6 ∈ zL o5.2 ∧ zK o5.2 b6 = 7) (
  m_calP (f_X7_isSafe b6 x1 v8 o5.2) (fun o9 =>
  m_ifP (o9.1 = 0) (
  g_X9_putApart_118 Pw self12 x0 x1 x2 x3 x4 x5 x6 x7 x8 o9.2 (C) (T)
  ) (
  m_ifP (x6 = 0) (
  m_bndP (x8 &&& (7 : Int32)) (fun v10 =>
  m_bndP (x2 &&& (7 : Int32)) (fun v11 =>
  m_ifP (v10 = v11) (
  g_X9_putApart_89 Pw self12 x0 x1 x2 x3 x4 (1 : Int32) x7 x8 o9.2 (C) (T)
  ) (
  g_X9_putApart_94 Pw self12 x0 x1 x2 x3 x4 (1 : Int32) x7 x8 (0 : Int32) o9.2 (C) (T)
  )))
  ) (
  g_X9_putApart_89 Pw self12 x0 x1 x2 x3 x4 (1 : Int32) x7 x8 o9.2 (C) (T)
  )
  )))))))
  )))
  ) (
  g_X9_putApart_118 Pw self12 x0 x1 x2 x3 x4 x5 x6 x7 x8 S (C) (T)
  )))))))))))
  )
  )

set_option maxRecDepth 100000 in
set_option maxHeartbeats 4000000 in
theorem ws_X9_putApart_12 {p : Program} {l : Launch} {e : Env} {s : State} {m : MethodId} {args : Array Value} {below : List Frame} {meth : Method} {c : Code} {Q : State → Prop} {D : va_G} {y : Nat → ClassId} {A0 : Nat → Prop} {kc kt : Nat} {Pw : Int32 → ZS → Prop} (X : CallFix p m c cX9_putApart 9 s args wsX9_putApart RX9) (hret : zQv p l e ({ frames := 3, cells := kc, slots := kt, locals := 106 } : Room) s m args below meth c Q cX9_putApart D y A0 Pw) {self12 : Nat → Nat → Int32 → Int32 → Nat → Int32 → Int32 → Int32 → Int32 → ZS → Nat → Nat → Prop} (hself12 : ∀ (x0 : Nat) (x1 : Nat) (x2 : Int32) (x3 : Int32) (x4 : Nat) (x5 : Int32) (x6 : Int32) (x7 : Int32) (x8 : Int32) (S : ZS) (C T : Nat) (H : Heap) (locs : List Loc) (ls : Array Slot), self12 x0 x1 x2 x3 x4 x5 x6 x7 x8 S C T → C ≤ kc ∧ T ≤ kt → zH D y A0 s H locs S → lv_has ls 9 [(0, .ref x0), (1, .ref x1), (2, .int x2), (3, .int x3), (4, .ref x4), (5, .int x5), (6, .int x6), (7, .int x7), (8, .int x8)] → W p l e ({ frames := 3, cells := kc, slots := kt, locals := 106 } : Room) s m args below meth c H locs (kc - C) (kt - T) Q (F0 m 12 ls [])) {x0 : Nat} {x1 : Nat} {x2 : Int32} {x3 : Int32} {x4 : Nat} {x5 : Int32} {x6 : Int32} {x7 : Int32} {x8 : Int32} {S : ZS} {C T : Nat} {H : Heap} {locs : List Loc} {ls : Array Slot} (hf : g_X9_putApart_12s Pw self12 x0 x1 x2 x3 x4 x5 x6 x7 x8 S C T) (hCT : C ≤ kc ∧ T ≤ kt) (hM : zH D y A0 s H locs S) (hl : lv_has ls 9 [(0, .ref x0), (1, .ref x1), (2, .int x2), (3, .int x3), (4, .ref x4), (5, .int x5), (6, .int x6), (7, .int x7), (8, .int x8)]) : W p l e ({ frames := 3, cells := kc, slots := kt, locals := 106 } : Room) s m args below meth c H locs (kc - C) (kt - T) Q (F0 m 12 ls []) := by
  obtain ⟨hx, hb, hml, hown, hts⟩ := id X
  unfold g_X9_putApart_12s at hf
  refine lv_iload hx hb dX9_putApart_12 (lv_at hl 8 rfl) ?_
  refine lv_bipush (v := (64 : Int32)) hx hb dX9_putApart_14 (by decide) ?_
  refine lv_icmp_ge (tgt := 124) hx hb dX9_putApart_16 (by decide) (fun cc1 => ?_) (fun cc1 => ?_)
  · replace hf := m_ifPT hf cc1
    refine lv_iload hx hb dX9_putApart_124 (lv_at hl 5 rfl) ?_
    refine lv_if_eq (tgt := 148) hx hb dX9_putApart_126 (by decide) (fun cc1 => ?_) (fun cc1 => ?_)
    · replace hf := m_ifPT hf cc1
      exact w_X9_putApart_148 (x2 := x2) (x4 := x4) (x6 := x6) X hret hf hCT hM (lv_sub hl [2, 4, 6] rfl)
    · replace hf := m_ifPF hf cc1
      refine lv_iload hx hb dX9_putApart_129 (lv_at hl 6 rfl) ?_
      refine lv_if_eq (tgt := 139) hx hb dX9_putApart_131 (by decide) (fun cc1 => ?_) (fun cc1 => ?_)
      · replace hf := m_ifPT hf cc1
        exact w_X9_putApart_139 (x2 := x2) (x4 := x4) (x6 := x6) X hret hf hCT hM (lv_sub hl [2, 4, 6] rfl)
      · replace hf := m_ifPF hf cc1
        refine lv_iload hx hb dX9_putApart_134 (lv_at hl 7 rfl) ?_
        refine lv_if_eq (tgt := 148) hx hb dX9_putApart_136 (by decide) (fun cc1 => ?_) (fun cc1 => ?_)
        · replace hf := m_ifPT hf cc1
          exact w_X9_putApart_148 (x2 := x2) (x4 := x4) (x6 := x6) X hret hf hCT hM (lv_sub hl [2, 4, 6] rfl)
        · replace hf := m_ifPF hf cc1
          exact w_X9_putApart_139 (x2 := x2) (x4 := x4) (x6 := x6) X hret hf hCT hM (lv_sub hl [2, 4, 6] rfl)
  · replace hf := m_ifPF hf cc1
    refine lv_iload hx hb dX9_putApart_19 (lv_at hl 8 rfl) ?_
    refine lv_iload_n hx hb dX9_putApart_21 rfl (lv_at hl 2 rfl) ?_
    refine lv_icmp_eq (tgt := 118) hx hb dX9_putApart_22 (by decide) (fun cc1 => ?_) (fun cc1 => ?_)
    · replace hf := m_ifPT hf cc1
      exact w_X9_putApart_118 (x0 := x0) (x1 := x1) (x2 := x2) (x3 := x3) (x4 := x4) (x5 := x5) (x6 := x6) (x7 := x7) (x8 := x8) X hret hself12 hf hCT hM (lv_sub hl [0, 1, 2, 3, 4, 5, 6, 7, 8] rfl)
    · replace hf := m_ifPF hf cc1
      refine lv_aload_n hx hb dX9_putApart_25 rfl (lv_at hl 1 rfl) ?_
      obtain ⟨ca, hf⟩ := m_chkPE hf
      refine z_get (k := 0) (j := 0) (C := RX0) (T := TX0) (N := 7) (fl := zf_0) (v := va_rf (zP S 0 x1)) X hw_X9_putApart_0 hM rfl zc_0 ca (by decide) fl_X9_putApart_0_0 rfl dX9_putApart_26 ?_
      clear ca
      obtain ⟨b1, hb9, hf⟩ := m_calPE hf
      refine z_topr hb9 ?_
      clear hb9
      refine lv_iload hx hb dX9_putApart_29 (lv_at hl 8 rfl) ?_
      obtain ⟨ca, hf⟩ := m_chkPE hf
      obtain ⟨cd, hf⟩ := m_chkPE hf
      refine z_iald X hM ca cd dX9_putApart_31 ?_
      clear ca cd
      obtain ⟨v2, ev, hf⟩ := m_bndPE hf
      refine m_top ev ?_
      clear ev
      refine lv_aload_n hx hb dX9_putApart_32 rfl (lv_at hl 1 rfl) ?_
      obtain ⟨ca, hf⟩ := m_chkPE hf
      refine z_get (k := 0) (j := 0) (C := RX0) (T := TX0) (N := 7) (fl := zf_0) (v := va_rf (zP S 0 x1)) X hw_X9_putApart_0 hM rfl zc_0 ca (by decide) fl_X9_putApart_0_0 rfl dX9_putApart_33 ?_
      clear ca
      obtain ⟨b3, hb9, hf⟩ := m_calPE hf
      refine z_topr hb9 ?_
      clear hb9
      refine lv_iload_n hx hb dX9_putApart_36 rfl (lv_at hl 2 rfl) ?_
      obtain ⟨ca, hf⟩ := m_chkPE hf
      obtain ⟨cd, hf⟩ := m_chkPE hf
      refine z_iald X hM ca cd dX9_putApart_37 ?_
      clear ca cd
      obtain ⟨v4, ev, hf⟩ := m_bndPE hf
      refine m_top ev ?_
      clear ev
      refine lv_icmp_ne (tgt := 118) hx hb dX9_putApart_38 (by decide) (fun cc1 => ?_) (fun cc1 => ?_)
      · replace hf := m_ifPF hf cc1
        exact w_X9_putApart_118 (x0 := x0) (x1 := x1) (x2 := x2) (x3 := x3) (x4 := x4) (x5 := x5) (x6 := x6) (x7 := x7) (x8 := x8) X hret hself12 hf hCT hM (lv_sub hl [0, 1, 2, 3, 4, 5, 6, 7, 8] rfl)
      · replace hf := m_ifPT hf cc1
        refine lv_aload_n hx hb dX9_putApart_41 rfl (lv_at hl 1 rfl) ?_
        refine lv_iload hx hb dX9_putApart_42 (lv_at hl 8 rfl) ?_
        refine lv_iload_n hx hb dX9_putApart_44 rfl (lv_at hl 3 rfl) ?_
        obtain ⟨ca, hf⟩ := m_chkPE hf
        obtain ⟨o5, ho, hf⟩ := m_calPE hf
        refine z_gcallVi (k := 0) (C := RX0) (T := TX0) (N := 7) (fl := zf_0) X hM rfl zc_0 ca (c_X0_reaches ho) gX9_putApart_X0_reaches rfl ⟨rfl, rfl⟩ hd_X0_reaches ⟨Nat.le_of_ble_eq_true rfl, Nat.le_of_ble_eq_true rfl⟩ rfl hl.1 rfl ⟨Nat.sub_le _ _, Nat.sub_le _ _⟩ (Nat.le_of_ble_eq_true rfl) dX9_putApart_45 (fun H locs hM => ?_)
        clear ho
        refine lv_if_eq (tgt := 118) hx hb dX9_putApart_48 (by decide) (fun cc1 => ?_) (fun cc1 => ?_)
        · replace hf := m_ifPT hf cc1
          exact w_X9_putApart_118 (x0 := x0) (x1 := x1) (x2 := x2) (x3 := x3) (x4 := x4) (x5 := x5) (x6 := x6) (x7 := x7) (x8 := x8) X hret hself12 hf hCT hM (lv_sub hl [0, 1, 2, 3, 4, 5, 6, 7, 8] rfl)
        · replace hf := m_ifPF hf cc1
          refine lv_aload_n hx hb dX9_putApart_51 rfl (lv_at hl 0 rfl) ?_
          obtain ⟨ca, hf⟩ := m_chkPE hf
          refine z_get (k := 9) (j := 0) (C := RX9) (T := TX9) (N := 1) (fl := zf_9) (v := va_rf (zP o5.2 0 x0)) X hw_X9_putApart_9 hM rfl zc_9 ca (by decide) fl_X9_putApart_9_0 rfl dX9_putApart_52 ?_
          clear ca
          obtain ⟨b6, hb9, hf⟩ := m_calPE hf
          refine z_topr hb9 ?_
          clear hb9
          refine lv_aload_n hx hb dX9_putApart_55 rfl (lv_at hl 1 rfl) ?_
          refine lv_iload hx hb dX9_putApart_56 (lv_at hl 8 rfl) ?_
          refine lv_bipush (v := (64 : Int32)) hx hb dX9_putApart_58 (by decide) ?_
          refine lv_iload_n hx hb dX9_putApart_60 rfl (lv_at hl 3 rfl) ?_
          refine lv_imul hx hb dX9_putApart_61 ?_
          obtain ⟨v7, ev, hf⟩ := m_bndPE hf
          refine m_top ev ?_
          clear ev
          refine lv_iadd hx hb dX9_putApart_62 ?_
          obtain ⟨v8, ev, hf⟩ := m_bndPE hf
          refine m_top ev ?_
          clear ev
          obtain ⟨ca, hf⟩ := m_chkPE hf
          obtain ⟨o9, ho, hf⟩ := m_calPE hf
          refine z_gcallVi (k := 7) (C := RX7) (T := TX7) (N := 2) (fl := zf_7) X hM rfl zc_7 ca (c_X7_isSafe ho) gX9_putApart_X7_isSafe rfl ⟨rfl, rfl⟩ hd_X7_isSafe ⟨Nat.le_of_ble_eq_true rfl, Nat.le_of_ble_eq_true rfl⟩ rfl hl.1 rfl ⟨Nat.sub_le _ _, Nat.sub_le _ _⟩ (Nat.le_of_ble_eq_true rfl) dX9_putApart_63 (fun H locs hM => ?_)
          clear ho
          refine lv_if_eq (tgt := 118) hx hb dX9_putApart_66 (by decide) (fun cc1 => ?_) (fun cc1 => ?_)
          · replace hf := m_ifPT hf cc1
            exact w_X9_putApart_118 (x0 := x0) (x1 := x1) (x2 := x2) (x3 := x3) (x4 := x4) (x5 := x5) (x6 := x6) (x7 := x7) (x8 := x8) X hret hself12 hf hCT hM (lv_sub hl [0, 1, 2, 3, 4, 5, 6, 7, 8] rfl)
          · replace hf := m_ifPF hf cc1
            refine lv_iconst (v := (1 : Int32)) hx hb dX9_putApart_69 (by decide) ?_
            refine lv_istore (lv' := [(5, .int (1 : Int32)), (0, .ref x0), (1, .ref x1), (2, .int x2), (3, .int x3), (4, .ref x4), (6, .int x6), (7, .int x7), (8, .int x8)]) hx hb dX9_putApart_70 hl (by decide) rfl (fun ls hl => ?_)
            refine lv_iload hx hb dX9_putApart_72 (lv_at hl 6 rfl) ?_
            refine lv_if_ne (tgt := 89) hx hb dX9_putApart_74 (by decide) (fun cc1 => ?_) (fun cc1 => ?_)
            · replace hf := m_ifPF hf cc1
              exact w_X9_putApart_89 (x0 := x0) (x1 := x1) (x2 := x2) (x3 := x3) (x4 := x4) (x5 := (1 : Int32)) (x7 := x7) (x8 := x8) X hret hself12 hf hCT hM (lv_sub hl [1, 2, 3, 4, 5, 0, 7, 8] rfl)
            · replace hf := m_ifPT hf cc1
              refine lv_iload hx hb dX9_putApart_77 (lv_at hl 8 rfl) ?_
              refine lv_bipush (v := (7 : Int32)) hx hb dX9_putApart_79 (by decide) ?_
              refine lv_iand hx hb dX9_putApart_81 ?_
              obtain ⟨v10, ev, hf⟩ := m_bndPE hf
              refine m_top ev ?_
              clear ev
              refine lv_iload_n hx hb dX9_putApart_82 rfl (lv_at hl 3 rfl) ?_
              refine lv_bipush (v := (7 : Int32)) hx hb dX9_putApart_83 (by decide) ?_
              refine lv_iand hx hb dX9_putApart_85 ?_
              obtain ⟨v11, ev, hf⟩ := m_bndPE hf
              refine m_top ev ?_
              clear ev
              refine lv_icmp_ne (tgt := 93) hx hb dX9_putApart_86 (by decide) (fun cc1 => ?_) (fun cc1 => ?_)
              · replace hf := m_ifPF hf cc1
                refine lv_iconst (v := (0 : Int32)) hx hb dX9_putApart_93 (by decide) ?_
                exact w_X9_putApart_94 (x0 := x0) (x1 := x1) (x2 := x2) (x3 := x3) (x4 := x4) (x5 := (1 : Int32)) (x7 := x7) (x8 := x8) (t0 := (0 : Int32)) X hret hself12 hf hCT hM (lv_sub hl [1, 2, 3, 4, 5, 0, 7, 8] rfl)
              · replace hf := m_ifPT hf cc1
                exact w_X9_putApart_89 (x0 := x0) (x1 := x1) (x2 := x2) (x3 := x3) (x4 := x4) (x5 := (1 : Int32)) (x7 := x7) (x8 := x8) X hret hself12 hf hCT hM (lv_sub hl [1, 2, 3, 4, 5, 0, 7, 8] rfl)
def g_X9_putApart_12 (Pw : Int32 → ZS → Prop) : Nat → Nat → Nat → Int32 → Int32 → Nat → Int32 → Int32 → Int32 → Int32 → ZS → Nat → Nat → Prop
  | 0 => fun _ _ _ _ _ _ _ _ _ _ _ _ => False
  | n + 1 => g_X9_putApart_12s Pw (g_X9_putApart_12 Pw n)
theorem w_X9_putApart_12 {p : Program} {l : Launch} {e : Env} {s : State} {m : MethodId} {args : Array Value} {below : List Frame} {meth : Method} {c : Code} {Q : State → Prop} {D : va_G} {y : Nat → ClassId} {A0 : Nat → Prop} {kc kt : Nat} {Pw : Int32 → ZS → Prop} (X : CallFix p m c cX9_putApart 9 s args wsX9_putApart RX9) (hret : zQv p l e ({ frames := 3, cells := kc, slots := kt, locals := 106 } : Room) s m args below meth c Q cX9_putApart D y A0 Pw) (n : Nat) : ∀ (x0 : Nat) (x1 : Nat) (x2 : Int32) (x3 : Int32) (x4 : Nat) (x5 : Int32) (x6 : Int32) (x7 : Int32) (x8 : Int32) (S : ZS) (C T : Nat) (H : Heap) (locs : List Loc) (ls : Array Slot), g_X9_putApart_12 Pw n x0 x1 x2 x3 x4 x5 x6 x7 x8 S C T → C ≤ kc ∧ T ≤ kt → zH D y A0 s H locs S → lv_has ls 9 [(0, .ref x0), (1, .ref x1), (2, .int x2), (3, .int x3), (4, .ref x4), (5, .int x5), (6, .int x6), (7, .int x7), (8, .int x8)] → W p l e ({ frames := 3, cells := kc, slots := kt, locals := 106 } : Room) s m args below meth c H locs (kc - C) (kt - T) Q (F0 m 12 ls []) := by
  induction n with
  | zero => intro x0 x1 x2 x3 x4 x5 x6 x7 x8 S C T H locs ls hf; exact absurd hf id
  | succ n ih => intro x0 x1 x2 x3 x4 x5 x6 x7 x8 S C T H locs ls hf hCT hM hl; exact ws_X9_putApart_12 X hret (self12 := g_X9_putApart_12 Pw n) ih hf hCT hM hl
def g_X9_putApart_0 (Pw : Int32 → ZS → Prop) (x0 : Nat) (x1 : Nat) (x2 : Int32) (x3 : Int32) (x4 : Nat) (S : ZS) (C T : Nat) : Prop :=
  g_X9_putApart_12 Pw mFuel x0 x1 x2 x3 x4 (0 : Int32) (0 : Int32) (0 : Int32) (0 : Int32) S (C) (T)

set_option maxRecDepth 100000 in
set_option maxHeartbeats 4000000 in
theorem w_X9_putApart_0 {p : Program} {l : Launch} {e : Env} {s : State} {m : MethodId} {args : Array Value} {below : List Frame} {meth : Method} {c : Code} {Q : State → Prop} {D : va_G} {y : Nat → ClassId} {A0 : Nat → Prop} {kc kt : Nat} {Pw : Int32 → ZS → Prop} (X : CallFix p m c cX9_putApart 9 s args wsX9_putApart RX9) (hret : zQv p l e ({ frames := 3, cells := kc, slots := kt, locals := 106 } : Room) s m args below meth c Q cX9_putApart D y A0 Pw) {x0 : Nat} {x1 : Nat} {x2 : Int32} {x3 : Int32} {x4 : Nat} {S : ZS} {C T : Nat} {H : Heap} {locs : List Loc} {ls : Array Slot} (hf : g_X9_putApart_0 Pw x0 x1 x2 x3 x4 S C T) (hCT : C ≤ kc ∧ T ≤ kt) (hM : zH D y A0 s H locs S) (hl : lv_has ls 9 [(0, .ref x0), (1, .ref x1), (2, .int x2), (3, .int x3), (4, .ref x4)]) : W p l e ({ frames := 3, cells := kc, slots := kt, locals := 106 } : Room) s m args below meth c H locs (kc - C) (kt - T) Q (F0 m 0 ls []) := by
  obtain ⟨hx, hb, hml, hown, hts⟩ := id X
  unfold g_X9_putApart_0 at hf
  refine lv_iconst (v := (0 : Int32)) hx hb dX9_putApart_0 (by decide) ?_
  refine lv_istore (lv' := [(5, .int (0 : Int32)), (0, .ref x0), (1, .ref x1), (2, .int x2), (3, .int x3), (4, .ref x4)]) hx hb dX9_putApart_1 hl (by decide) rfl (fun ls hl => ?_)
  refine lv_iconst (v := (0 : Int32)) hx hb dX9_putApart_3 (by decide) ?_
  refine lv_istore (lv' := [(6, .int (0 : Int32)), (5, .int (0 : Int32)), (0, .ref x0), (1, .ref x1), (2, .int x2), (3, .int x3), (4, .ref x4)]) hx hb dX9_putApart_4 hl (by decide) rfl (fun ls hl => ?_)
  refine lv_iconst (v := (0 : Int32)) hx hb dX9_putApart_6 (by decide) ?_
  refine lv_istore (lv' := [(7, .int (0 : Int32)), (6, .int (0 : Int32)), (5, .int (0 : Int32)), (0, .ref x0), (1, .ref x1), (2, .int x2), (3, .int x3), (4, .ref x4)]) hx hb dX9_putApart_7 hl (by decide) rfl (fun ls hl => ?_)
  refine lv_iconst (v := (0 : Int32)) hx hb dX9_putApart_9 (by decide) ?_
  refine lv_istore (lv' := [(8, .int (0 : Int32)), (7, .int (0 : Int32)), (6, .int (0 : Int32)), (5, .int (0 : Int32)), (0, .ref x0), (1, .ref x1), (2, .int x2), (3, .int x3), (4, .ref x4)]) hx hb dX9_putApart_10 hl (by decide) rfl (fun ls hl => ?_)
  exact w_X9_putApart_12 X hret _ x0 x1 x2 x3 x4 (0 : Int32) (0 : Int32) (0 : Int32) (0 : Int32) _ _ _ _ _ _ hf hCT hM (lv_sub hl [4, 5, 6, 7, 8, 3, 2, 1, 0] rfl)
def g_X9_putApart (x0 : Nat) (x1 : Nat) (x2 : Int32) (x3 : Int32) (x4 : Nat) (S : ZS) (mc ms : Nat) (Pw : Int32 → ZS → Prop) : Prop := g_X9_putApart_0 Pw x0 x1 x2 x3 x4 S mc ms
theorem c_X9_putApart {l : Launch} {D : va_G} {y : Nat → ClassId} {x0 : Nat} {x1 : Nat} {x2 : Int32} {x3 : Int32} {x4 : Nat} {S : ZS} {kc kt : Nat} {Pw : Int32 → ZS → Prop} (hf : g_X9_putApart x0 x1 x2 x3 x4 S kc kt Pw) : zWv l yX9_putApart wsX9_putApart ({ frames := 3, cells := kc, slots := kt, locals := 106 } : Room) [.ref x0, .ref x1, .int x2, .int x3, .ref x4] D y S kc kt Pw :=
  z_wentV (own := RX9) (cc := cX9_putApart) (maxL := 9) (by decide) rfl rfl (Nat.le_of_ble_eq_true rfl) ⟨rfl, rfl⟩ (fun p e s m args below meth c A0 Q H locs ls X hret hM hl => w_X9_putApart_0 X hret hf ⟨Nat.le_refl _, Nat.le_refl _⟩ hM (lv_sub hl [0, 1, 2, 3, 4] rfl))
theorem hd_X9_putApart : yX9_putApart.cls = RX9 ∧ yX9_putApart.cls ≠ "java/lang/invoke/MethodHandle" ∧ yX9_putApart.cls ≠ "java/lang/invoke/VarHandle" ∧ (parseMethodDescriptor yX9_putApart.desc).map (fun d => d.parameters.length) = some 4 := by decide +kernel
theorem cl_X11_byteOf_277 : Cond.constantLong RX11 277 (255) ∈ wsX11_byteOf := by decide +kernel
def f_X11_byteOf_0 (x0 : Int64) (x2 : Int32) (S : ZS) : Option (Int32 × ZS) :=
  m_bnd ((8 : Int32) * x2) (fun v1 =>
  m_bnd (((x0).toUInt64 >>> ((v1).toInt64.toUInt64 &&& Int64.toUInt64 63)).toInt64) (fun v2 =>
  m_bnd (v2 &&& (255 : Int64)) (fun v3 =>
  m_bnd ((v3).toInt32) (fun v4 =>
  m_bnd ((v4.toUInt32 % 65536).toInt32) (fun v5 =>
  m_chk (vp_nar .char v5 = v5) (some (v5, S)))))))

set_option maxRecDepth 100000 in
set_option maxHeartbeats 4000000 in
theorem w_X11_byteOf_0 {p : Program} {l : Launch} {e : Env} {s : State} {m : MethodId} {args : Array Value} {below : List Frame} {meth : Method} {c : Code} {Q : State → Prop} {D : va_G} {y : Nat → ClassId} {A0 : Nat → Prop} {o : Int32 × ZS} (X : CallFix p m c cX11_byteOf 3 s args wsX11_byteOf RX11) (hret : zRi p l e ({ frames := 0, cells := 0, slots := 0, locals := 0 } : Room) s m args below meth c Q cX11_byteOf D y A0 .char o) {x0 : Int64} {x2 : Int32} {S : ZS} {H : Heap} {locs : List Loc} {ls : Array Slot} (hf : f_X11_byteOf_0 x0 x2 S = some o) (hM : zH D y A0 s H locs S) (hl : lv_has ls 3 [(0, .long x0), (2, .int x2)]) : W p l e ({ frames := 0, cells := 0, slots := 0, locals := 0 } : Room) s m args below meth c H locs 0 0 Q (F0 m 0 ls []) := by
  obtain ⟨hx, hb, hml, hown, hts⟩ := id X
  unfold f_X11_byteOf_0 at hf
  refine lv_lload_n hx hb dX11_byteOf_0 rfl (lv_at hl 0 rfl) ?_
  refine lv_bipush (v := (8 : Int32)) hx hb dX11_byteOf_1 (by decide) ?_
  refine lv_iload_n hx hb dX11_byteOf_3 rfl (lv_at hl 1 rfl) ?_
  refine lv_imul hx hb dX11_byteOf_4 ?_
  obtain ⟨v1, ev, hf⟩ := m_bndE hf
  refine m_top ev ?_
  clear ev
  refine lv_lushr (v := ((x0).toUInt64 >>> ((v1).toInt64.toUInt64 &&& Int64.toUInt64 63)).toInt64) hx hb dX11_byteOf_5 rfl ?_
  obtain ⟨v2, ev, hf⟩ := m_bndE hf
  refine m_topl ev ?_
  clear ev
  refine lv_ldc2 (v := (255 : Int64)) hx hb hown (hts _ cl_X11_byteOf_277) dX11_byteOf_6 ?_
  refine lv_land hx hb dX11_byteOf_9 ?_
  obtain ⟨v3, ev, hf⟩ := m_bndE hf
  refine m_topl ev ?_
  clear ev
  refine lv_l2i (v := (v3).toInt32) hx hb dX11_byteOf_10 rfl ?_
  obtain ⟨v4, ev, hf⟩ := m_bndE hf
  refine m_top ev ?_
  clear ev
  refine lv_i2c (v := (v4.toUInt32 % 65536).toInt32) hx hb dX11_byteOf_11 rfl ?_
  obtain ⟨v5, ev, hf⟩ := m_bndE hf
  refine m_top ev ?_
  clear ev
  obtain ⟨cd, hf⟩ := m_chkE hf
  cases hf
  exact hret H locs _ ls hM (m_nc cd) dX11_byteOf_12
def f_X11_byteOf (x0 : Int64) (x2 : Int32) (S : ZS) : Option (Int32 × ZS) := f_X11_byteOf_0 x0 x2 S
theorem c_X11_byteOf {l : Launch} {D : va_G} {y : Nat → ClassId} {x0 : Int64} {x2 : Int32} {S : ZS} {o : Int32 × ZS} (hf : f_X11_byteOf x0 x2 S = some o) : zMi l yX11_byteOf wsX11_byteOf ({ frames := 0, cells := 0, slots := 0, locals := 0 } : Room) [.long x0, .int x2] D y S o :=
  z_entryI (own := RX11) (cc := cX11_byteOf) (maxL := 3) (by decide) rfl rfl (Nat.le_of_ble_eq_true rfl) (fun p e s m args below meth c A0 Q H locs ls X hret hM hl => w_X11_byteOf_0 X hret hf hM (lv_sub hl [0, 1] rfl))
theorem hd_X11_byteOf : yX11_byteOf.cls ≠ "java/lang/invoke/MethodHandle" ∧ yX11_byteOf.cls ≠ "java/lang/invoke/VarHandle" ∧ (parseMethodDescriptor yX11_byteOf.desc).map (fun d => d.parameters.length) = some 2 := by decide +kernel
theorem fl_X11_type_11_0 : Cond.fieldLink RX11 10 "MoveTexts" "text" "LMoveTexts$Row;" ∈ wsX11_type := by decide +kernel
theorem hw_X11_type_11 : ∀ w ∈ wsX110, w ∈ wsX11_type := by decide +kernel
def g_X11_type_26 (Pw : Int32 → ZS → Prop) (S : ZS) (C T : Nat) : Prop :=
  m_chkP (vp_nar .boolean (0 : Int32) = (0 : Int32)) (Pw (0 : Int32) S)

set_option maxRecDepth 100000 in
set_option maxHeartbeats 4000000 in
theorem w_X11_type_26 {p : Program} {l : Launch} {e : Env} {s : State} {m : MethodId} {args : Array Value} {below : List Frame} {meth : Method} {c : Code} {Q : State → Prop} {D : va_G} {y : Nat → ClassId} {A0 : Nat → Prop} {kc kt : Nat} {Pw : Int32 → ZS → Prop} (X : CallFix p m c cX11_type 6 s args wsX11_type RX11) (hret : zQi p l e ({ frames := 2, cells := kc, slots := kt, locals := 82 } : Room) s m args below meth c Q cX11_type D y A0 .boolean Pw) {S : ZS} {C T : Nat} {H : Heap} {locs : List Loc} {ls : Array Slot} (hf : g_X11_type_26 Pw  S C T) (hCT : C ≤ kc ∧ T ≤ kt) (hM : zH D y A0 s H locs S) (hl : lv_has ls 6 []) : W p l e ({ frames := 2, cells := kc, slots := kt, locals := 82 } : Room) s m args below meth c H locs (kc - C) (kt - T) Q (F0 m 26 ls []) := by
  obtain ⟨hx, hb, hml, hown, hts⟩ := id X
  unfold g_X11_type_26 at hf
  refine lv_iconst (v := (0 : Int32)) hx hb dX11_type_26 (by decide) ?_
  obtain ⟨cd, hf⟩ := m_chkPE hf
  exact hret _ _ _ _ H locs _ ls hf hM (m_nb cd) dX11_type_27
def g_X11_type_77s (Pw : Int32 → ZS → Prop) (self77 : Nat → Int64 → Int32 → Int32 → ZS → Nat → Nat → Prop) (x0 : Nat) (x1 : Int64) (x3 : Int32) (x4 : Int32) (S : ZS) (C T : Nat) : Prop :=
  m_ifP (x3 ≤ x4) (
  m_chkP (vp_nar .boolean (1 : Int32) = (1 : Int32)) (Pw (1 : Int32) S)
  ) (
  m_chkP (x0 ∈ zL S ∧ zK S x0 = 11) (
  m_calP (zP S 0 x0) (fun b1 =>
  m_calP (f_X11_byteOf x1 x4 S) (fun o2 =>
  m_chkP (b1 ∈ zL o2.2 ∧ zK o2.2 b1 = 6) (
  m_gal (C) (T) (fun mc ms Pw => g_X6_put b1 o2.1 o2.2 mc ms Pw) (fun r4 S5 C6 T7 =>
  m_bndP (x4 + (1 : Int32)) (fun v8 =>
  self77 x0 x1 x3 v8 S5 (C6) (T7)))))))
  )

set_option maxRecDepth 100000 in
set_option maxHeartbeats 4000000 in
theorem ws_X11_type_77 {p : Program} {l : Launch} {e : Env} {s : State} {m : MethodId} {args : Array Value} {below : List Frame} {meth : Method} {c : Code} {Q : State → Prop} {D : va_G} {y : Nat → ClassId} {A0 : Nat → Prop} {kc kt : Nat} {Pw : Int32 → ZS → Prop} (X : CallFix p m c cX11_type 6 s args wsX11_type RX11) (hret : zQi p l e ({ frames := 2, cells := kc, slots := kt, locals := 82 } : Room) s m args below meth c Q cX11_type D y A0 .boolean Pw) {self77 : Nat → Int64 → Int32 → Int32 → ZS → Nat → Nat → Prop} (hself77 : ∀ (x0 : Nat) (x1 : Int64) (x3 : Int32) (x4 : Int32) (S : ZS) (C T : Nat) (H : Heap) (locs : List Loc) (ls : Array Slot), self77 x0 x1 x3 x4 S C T → C ≤ kc ∧ T ≤ kt → zH D y A0 s H locs S → lv_has ls 6 [(0, .ref x0), (1, .long x1), (3, .int x3), (4, .int x4)] → W p l e ({ frames := 2, cells := kc, slots := kt, locals := 82 } : Room) s m args below meth c H locs (kc - C) (kt - T) Q (F0 m 77 ls [])) {x0 : Nat} {x1 : Int64} {x3 : Int32} {x4 : Int32} {S : ZS} {C T : Nat} {H : Heap} {locs : List Loc} {ls : Array Slot} (hf : g_X11_type_77s Pw self77 x0 x1 x3 x4 S C T) (hCT : C ≤ kc ∧ T ≤ kt) (hM : zH D y A0 s H locs S) (hl : lv_has ls 6 [(0, .ref x0), (1, .long x1), (3, .int x3), (4, .int x4)]) : W p l e ({ frames := 2, cells := kc, slots := kt, locals := 82 } : Room) s m args below meth c H locs (kc - C) (kt - T) Q (F0 m 77 ls []) := by
  obtain ⟨hx, hb, hml, hown, hts⟩ := id X
  unfold g_X11_type_77s at hf
  refine lv_iload hx hb dX11_type_77 (lv_at hl 3 rfl) ?_
  refine lv_iload_n hx hb dX11_type_79 rfl (lv_at hl 2 rfl) ?_
  refine lv_icmp_ge (tgt := 102) hx hb dX11_type_80 (by decide) (fun cc1 => ?_) (fun cc1 => ?_)
  · replace hf := m_ifPT hf cc1
    refine lv_iconst (v := (1 : Int32)) hx hb dX11_type_102 (by decide) ?_
    obtain ⟨cd, hf⟩ := m_chkPE hf
    exact hret _ _ _ _ H locs _ ls hf hM (m_nb cd) dX11_type_103
  · replace hf := m_ifPF hf cc1
    refine lv_aload_n hx hb dX11_type_83 rfl (lv_at hl 0 rfl) ?_
    obtain ⟨ca, hf⟩ := m_chkPE hf
    refine z_get (k := 11) (j := 0) (C := RX11) (T := TX11) (N := 10) (fl := zf_11) (v := va_rf (zP S 0 x0)) X hw_X11_type_11 hM rfl zc_11 ca (by decide) fl_X11_type_11_0 rfl dX11_type_84 ?_
    clear ca
    obtain ⟨b1, hb9, hf⟩ := m_calPE hf
    refine z_topr hb9 ?_
    clear hb9
    refine lv_lload_n hx hb dX11_type_87 rfl (lv_at hl 1 rfl) ?_
    refine lv_iload hx hb dX11_type_88 (lv_at hl 3 rfl) ?_
    obtain ⟨o2, ho, hf⟩ := m_calPE hf
    refine z_gcallSi X hM (c_X11_byteOf ho) gX11_type_X11_byteOf rfl ⟨rfl, rfl⟩ hd_X11_byteOf ⟨Nat.le_of_ble_eq_true rfl, Nat.le_of_ble_eq_true rfl⟩ rfl hl.1 rfl ⟨Nat.sub_le _ _, Nat.sub_le _ _⟩ (Nat.le_of_ble_eq_true rfl) dX11_type_90 (fun H locs hM => ?_)
    clear ho
    obtain ⟨ca, hf⟩ := m_chkPE hf
    obtain ⟨mc, ms, hcm, ho⟩ := m_galE hf
    refine z_wcallVv (k := 6) (C := RX6) (T := TX6) (N := 2) (fl := zf_6) X hM rfl zc_6 ca (c_X6_put ho) gX11_type_X6_put rfl ⟨rfl, rfl⟩ ⟨by show kc - (C) + mc ≤ kc; omega, by show kt - (T) + ms ≤ kt; omega⟩ hd_X6_put ⟨Nat.le_of_ble_eq_true rfl, Nat.le_of_ble_eq_true rfl⟩ rfl hl.1 rfl (Nat.le_of_ble_eq_true rfl) dX11_type_93 (fun S5 H locs hf hM => ?_)
    refine z_eqCS (c2 := kc - (C - mc)) (t2 := kt - (T - ms)) (by omega) (by omega) ?_
    replace hCT : C - mc ≤ kc ∧ T - ms ≤ kt := by omega
    generalize C - mc = C6 at hf hCT ⊢
    generalize T - ms = T7 at hf hCT ⊢
    clear ho hcm
    obtain ⟨v8, ev, hf⟩ := m_bndPE hf
    refine lv_iinc (v := v8) (lv' := [(4, .int v8), (0, .ref x0), (1, .long x1), (3, .int x3)]) hx hb dX11_type_96 hl (k := 3) rfl (by rw [ev]; rfl) (by decide) rfl (fun ls hl => ?_)
    clear ev
    refine lv_goto (tgt := 77) hx hb dX11_type_99 (by decide) ?_
    exact hself77 x0 x1 x3 v8 _ _ _ _ _ _ hf hCT hM (lv_sub hl [1, 2, 3, 0] rfl)
def g_X11_type_77 (Pw : Int32 → ZS → Prop) : Nat → Nat → Int64 → Int32 → Int32 → ZS → Nat → Nat → Prop
  | 0 => fun _ _ _ _ _ _ _ => False
  | n + 1 => g_X11_type_77s Pw (g_X11_type_77 Pw n)
theorem w_X11_type_77 {p : Program} {l : Launch} {e : Env} {s : State} {m : MethodId} {args : Array Value} {below : List Frame} {meth : Method} {c : Code} {Q : State → Prop} {D : va_G} {y : Nat → ClassId} {A0 : Nat → Prop} {kc kt : Nat} {Pw : Int32 → ZS → Prop} (X : CallFix p m c cX11_type 6 s args wsX11_type RX11) (hret : zQi p l e ({ frames := 2, cells := kc, slots := kt, locals := 82 } : Room) s m args below meth c Q cX11_type D y A0 .boolean Pw) (n : Nat) : ∀ (x0 : Nat) (x1 : Int64) (x3 : Int32) (x4 : Int32) (S : ZS) (C T : Nat) (H : Heap) (locs : List Loc) (ls : Array Slot), g_X11_type_77 Pw n x0 x1 x3 x4 S C T → C ≤ kc ∧ T ≤ kt → zH D y A0 s H locs S → lv_has ls 6 [(0, .ref x0), (1, .long x1), (3, .int x3), (4, .int x4)] → W p l e ({ frames := 2, cells := kc, slots := kt, locals := 82 } : Room) s m args below meth c H locs (kc - C) (kt - T) Q (F0 m 77 ls []) := by
  induction n with
  | zero => intro x0 x1 x3 x4 S C T H locs ls hf; exact absurd hf id
  | succ n ih => intro x0 x1 x3 x4 S C T H locs ls hf hCT hM hl; exact ws_X11_type_77 X hret (self77 := g_X11_type_77 Pw n) ih hf hCT hM hl
def g_X11_type_68 (Pw : Int32 → ZS → Prop) (self31 : Nat → Int64 → Int32 → Int32 → ZS → Nat → Nat → Prop) (x0 : Nat) (x1 : Int64) (x3 : Int32) (x4 : Int32) (S : ZS) (C T : Nat) : Prop :=
  m_bndP (x4 + (1 : Int32)) (fun v1 =>
  self31 x0 x1 x3 v1 S (C) (T))

set_option maxRecDepth 100000 in
set_option maxHeartbeats 4000000 in
theorem w_X11_type_68 {p : Program} {l : Launch} {e : Env} {s : State} {m : MethodId} {args : Array Value} {below : List Frame} {meth : Method} {c : Code} {Q : State → Prop} {D : va_G} {y : Nat → ClassId} {A0 : Nat → Prop} {kc kt : Nat} {Pw : Int32 → ZS → Prop} (X : CallFix p m c cX11_type 6 s args wsX11_type RX11) (hret : zQi p l e ({ frames := 2, cells := kc, slots := kt, locals := 82 } : Room) s m args below meth c Q cX11_type D y A0 .boolean Pw) {self31 : Nat → Int64 → Int32 → Int32 → ZS → Nat → Nat → Prop} (hself31 : ∀ (x0 : Nat) (x1 : Int64) (x3 : Int32) (x4 : Int32) (S : ZS) (C T : Nat) (H : Heap) (locs : List Loc) (ls : Array Slot), self31 x0 x1 x3 x4 S C T → C ≤ kc ∧ T ≤ kt → zH D y A0 s H locs S → lv_has ls 6 [(0, .ref x0), (1, .long x1), (3, .int x3), (4, .int x4)] → W p l e ({ frames := 2, cells := kc, slots := kt, locals := 82 } : Room) s m args below meth c H locs (kc - C) (kt - T) Q (F0 m 31 ls [])) {x0 : Nat} {x1 : Int64} {x3 : Int32} {x4 : Int32} {S : ZS} {C T : Nat} {H : Heap} {locs : List Loc} {ls : Array Slot} (hf : g_X11_type_68 Pw self31 x0 x1 x3 x4 S C T) (hCT : C ≤ kc ∧ T ≤ kt) (hM : zH D y A0 s H locs S) (hl : lv_has ls 6 [(0, .ref x0), (1, .long x1), (3, .int x3), (4, .int x4)]) : W p l e ({ frames := 2, cells := kc, slots := kt, locals := 82 } : Room) s m args below meth c H locs (kc - C) (kt - T) Q (F0 m 68 ls []) := by
  obtain ⟨hx, hb, hml, hown, hts⟩ := id X
  unfold g_X11_type_68 at hf
  obtain ⟨v1, ev, hf⟩ := m_bndPE hf
  refine lv_iinc (v := v1) (lv' := [(4, .int v1), (0, .ref x0), (1, .long x1), (3, .int x3)]) hx hb dX11_type_68 hl (k := 3) rfl (by rw [ev]; rfl) (by decide) rfl (fun ls hl => ?_)
  clear ev
  refine lv_goto (tgt := 31) hx hb dX11_type_71 (by decide) ?_
  exact hself31 x0 x1 x3 v1 _ _ _ _ _ _ hf hCT hM (lv_sub hl [1, 2, 3, 0] rfl)
def g_X11_type_66 (Pw : Int32 → ZS → Prop) (S : ZS) (C T : Nat) : Prop :=
  m_chkP (vp_nar .boolean (0 : Int32) = (0 : Int32)) (Pw (0 : Int32) S)

set_option maxRecDepth 100000 in
set_option maxHeartbeats 4000000 in
theorem w_X11_type_66 {p : Program} {l : Launch} {e : Env} {s : State} {m : MethodId} {args : Array Value} {below : List Frame} {meth : Method} {c : Code} {Q : State → Prop} {D : va_G} {y : Nat → ClassId} {A0 : Nat → Prop} {kc kt : Nat} {Pw : Int32 → ZS → Prop} (X : CallFix p m c cX11_type 6 s args wsX11_type RX11) (hret : zQi p l e ({ frames := 2, cells := kc, slots := kt, locals := 82 } : Room) s m args below meth c Q cX11_type D y A0 .boolean Pw) {S : ZS} {C T : Nat} {H : Heap} {locs : List Loc} {ls : Array Slot} (hf : g_X11_type_66 Pw  S C T) (hCT : C ≤ kc ∧ T ≤ kt) (hM : zH D y A0 s H locs S) (hl : lv_has ls 6 []) : W p l e ({ frames := 2, cells := kc, slots := kt, locals := 82 } : Room) s m args below meth c H locs (kc - C) (kt - T) Q (F0 m 66 ls []) := by
  obtain ⟨hx, hb, hml, hown, hts⟩ := id X
  unfold g_X11_type_66 at hf
  refine lv_iconst (v := (0 : Int32)) hx hb dX11_type_66 (by decide) ?_
  obtain ⟨cd, hf⟩ := m_chkPE hf
  exact hret _ _ _ _ H locs _ ls hf hM (m_nb cd) dX11_type_67
def g_X11_type_31s (Pw : Int32 → ZS → Prop) (self31 : Nat → Int64 → Int32 → Int32 → ZS → Nat → Nat → Prop) (x0 : Nat) (x1 : Int64) (x3 : Int32) (x4 : Int32) (S : ZS) (C T : Nat) : Prop :=
  m_ifP (x3 ≤ x4) (
  g_X11_type_77 Pw mFuel x0 x1 x3 (0 : Int32) S (C) (T)
  ) (
  m_calP (f_X11_byteOf x1 x4 S) (fun o1 =>
  m_ifP (o1.1 = (10 : Int32)) (
  g_X11_type_68 Pw self31 x0 x1 x3 x4 o1.2 (C) (T)
  ) (
  m_ifP (o1.1 < (32 : Int32)) (
  g_X11_type_66 Pw  o1.2 (C) (T)
  ) (
  m_ifP (o1.1 ≤ (126 : Int32)) (
  g_X11_type_68 Pw self31 x0 x1 x3 x4 o1.2 (C) (T)
  ) (
  g_X11_type_66 Pw  o1.2 (C) (T)
  )
  )
  ))
  )

set_option maxRecDepth 100000 in
set_option maxHeartbeats 4000000 in
theorem ws_X11_type_31 {p : Program} {l : Launch} {e : Env} {s : State} {m : MethodId} {args : Array Value} {below : List Frame} {meth : Method} {c : Code} {Q : State → Prop} {D : va_G} {y : Nat → ClassId} {A0 : Nat → Prop} {kc kt : Nat} {Pw : Int32 → ZS → Prop} (X : CallFix p m c cX11_type 6 s args wsX11_type RX11) (hret : zQi p l e ({ frames := 2, cells := kc, slots := kt, locals := 82 } : Room) s m args below meth c Q cX11_type D y A0 .boolean Pw) {self31 : Nat → Int64 → Int32 → Int32 → ZS → Nat → Nat → Prop} (hself31 : ∀ (x0 : Nat) (x1 : Int64) (x3 : Int32) (x4 : Int32) (S : ZS) (C T : Nat) (H : Heap) (locs : List Loc) (ls : Array Slot), self31 x0 x1 x3 x4 S C T → C ≤ kc ∧ T ≤ kt → zH D y A0 s H locs S → lv_has ls 6 [(0, .ref x0), (1, .long x1), (3, .int x3), (4, .int x4)] → W p l e ({ frames := 2, cells := kc, slots := kt, locals := 82 } : Room) s m args below meth c H locs (kc - C) (kt - T) Q (F0 m 31 ls [])) {x0 : Nat} {x1 : Int64} {x3 : Int32} {x4 : Int32} {S : ZS} {C T : Nat} {H : Heap} {locs : List Loc} {ls : Array Slot} (hf : g_X11_type_31s Pw self31 x0 x1 x3 x4 S C T) (hCT : C ≤ kc ∧ T ≤ kt) (hM : zH D y A0 s H locs S) (hl : lv_has ls 6 [(0, .ref x0), (1, .long x1), (3, .int x3), (4, .int x4)]) : W p l e ({ frames := 2, cells := kc, slots := kt, locals := 82 } : Room) s m args below meth c H locs (kc - C) (kt - T) Q (F0 m 31 ls []) := by
  obtain ⟨hx, hb, hml, hown, hts⟩ := id X
  unfold g_X11_type_31s at hf
  refine lv_iload hx hb dX11_type_31 (lv_at hl 3 rfl) ?_
  refine lv_iload_n hx hb dX11_type_33 rfl (lv_at hl 2 rfl) ?_
  refine lv_icmp_ge (tgt := 74) hx hb dX11_type_34 (by decide) (fun cc1 => ?_) (fun cc1 => ?_)
  · replace hf := m_ifPT hf cc1
    refine lv_iconst (v := (0 : Int32)) hx hb dX11_type_74 (by decide) ?_
    refine lv_istore (lv' := [(4, .int (0 : Int32)), (0, .ref x0), (1, .long x1), (3, .int x3)]) hx hb dX11_type_75 hl (by decide) rfl (fun ls hl => ?_)
    exact w_X11_type_77 X hret _ x0 x1 x3 (0 : Int32) _ _ _ _ _ _ hf hCT hM (lv_sub hl [1, 2, 3, 0] rfl)
  · replace hf := m_ifPF hf cc1
    refine lv_lload_n hx hb dX11_type_37 rfl (lv_at hl 1 rfl) ?_
    refine lv_iload hx hb dX11_type_38 (lv_at hl 3 rfl) ?_
    obtain ⟨o1, ho, hf⟩ := m_calPE hf
    refine z_gcallSi X hM (c_X11_byteOf ho) gX11_type_X11_byteOf rfl ⟨rfl, rfl⟩ hd_X11_byteOf ⟨Nat.le_of_ble_eq_true rfl, Nat.le_of_ble_eq_true rfl⟩ rfl hl.1 rfl ⟨Nat.sub_le _ _, Nat.sub_le _ _⟩ (Nat.le_of_ble_eq_true rfl) dX11_type_40 (fun H locs hM => ?_)
    clear ho
    refine lv_istore (lv' := [(5, .int o1.1), (0, .ref x0), (1, .long x1), (3, .int x3), (4, .int x4)]) hx hb dX11_type_43 hl (by decide) rfl (fun ls hl => ?_)
    refine lv_iload hx hb dX11_type_45 (lv_at hl 0 rfl) ?_
    refine lv_bipush (v := (10 : Int32)) hx hb dX11_type_47 (by decide) ?_
    refine lv_icmp_eq (tgt := 68) hx hb dX11_type_49 (by decide) (fun cc1 => ?_) (fun cc1 => ?_)
    · replace hf := m_ifPT hf cc1
      exact w_X11_type_68 (x0 := x0) (x1 := x1) (x3 := x3) (x4 := x4) X hret hself31 hf hCT hM (lv_sub hl [1, 2, 3, 4] rfl)
    · replace hf := m_ifPF hf cc1
      refine lv_iload hx hb dX11_type_52 (lv_at hl 0 rfl) ?_
      refine lv_bipush (v := (32 : Int32)) hx hb dX11_type_54 (by decide) ?_
      refine lv_icmp_lt (tgt := 66) hx hb dX11_type_56 (by decide) (fun cc1 => ?_) (fun cc1 => ?_)
      · replace hf := m_ifPT hf cc1
        exact w_X11_type_66 X hret hf hCT hM (lv_sub hl [] rfl)
      · replace hf := m_ifPF hf cc1
        refine lv_iload hx hb dX11_type_59 (lv_at hl 0 rfl) ?_
        refine lv_bipush (v := (126 : Int32)) hx hb dX11_type_61 (by decide) ?_
        refine lv_icmp_le (tgt := 68) hx hb dX11_type_63 (by decide) (fun cc1 => ?_) (fun cc1 => ?_)
        · replace hf := m_ifPT hf cc1
          exact w_X11_type_68 (x0 := x0) (x1 := x1) (x3 := x3) (x4 := x4) X hret hself31 hf hCT hM (lv_sub hl [1, 2, 3, 4] rfl)
        · replace hf := m_ifPF hf cc1
          exact w_X11_type_66 X hret hf hCT hM (lv_sub hl [] rfl)
def g_X11_type_31 (Pw : Int32 → ZS → Prop) : Nat → Nat → Int64 → Int32 → Int32 → ZS → Nat → Nat → Prop
  | 0 => fun _ _ _ _ _ _ _ => False
  | n + 1 => g_X11_type_31s Pw (g_X11_type_31 Pw n)
theorem w_X11_type_31 {p : Program} {l : Launch} {e : Env} {s : State} {m : MethodId} {args : Array Value} {below : List Frame} {meth : Method} {c : Code} {Q : State → Prop} {D : va_G} {y : Nat → ClassId} {A0 : Nat → Prop} {kc kt : Nat} {Pw : Int32 → ZS → Prop} (X : CallFix p m c cX11_type 6 s args wsX11_type RX11) (hret : zQi p l e ({ frames := 2, cells := kc, slots := kt, locals := 82 } : Room) s m args below meth c Q cX11_type D y A0 .boolean Pw) (n : Nat) : ∀ (x0 : Nat) (x1 : Int64) (x3 : Int32) (x4 : Int32) (S : ZS) (C T : Nat) (H : Heap) (locs : List Loc) (ls : Array Slot), g_X11_type_31 Pw n x0 x1 x3 x4 S C T → C ≤ kc ∧ T ≤ kt → zH D y A0 s H locs S → lv_has ls 6 [(0, .ref x0), (1, .long x1), (3, .int x3), (4, .int x4)] → W p l e ({ frames := 2, cells := kc, slots := kt, locals := 82 } : Room) s m args below meth c H locs (kc - C) (kt - T) Q (F0 m 31 ls []) := by
  induction n with
  | zero => intro x0 x1 x3 x4 S C T H locs ls hf; exact absurd hf id
  | succ n ih => intro x0 x1 x3 x4 S C T H locs ls hf hCT hM hl; exact ws_X11_type_31 X hret (self31 := g_X11_type_31 Pw n) ih hf hCT hM hl
def g_X11_type_0 (Pw : Int32 → ZS → Prop) (x0 : Nat) (x1 : Int64) (x3 : Int32) (S : ZS) (C T : Nat) : Prop :=
  m_ifP (x3 < (1 : Int32)) (
  g_X11_type_26 Pw  S (C) (T)
  ) (
  m_ifP ((8 : Int32) < x3) (
  g_X11_type_26 Pw  S (C) (T)
  ) (
  m_chkP (x0 ∈ zL S ∧ zK S x0 = 11) (
  m_calP (zP S 0 x0) (fun b1 =>
  m_chkP (b1 ∈ zL S ∧ zK S b1 = 6) (
  m_calP (f_X6_size b1 S) (fun o2 =>
  m_bndP (o2.1 + x3) (fun v3 =>
  m_ifP (v3 ≤ (2000 : Int32)) (
  g_X11_type_31 Pw mFuel x0 x1 x3 (0 : Int32) o2.2 (C) (T)
  ) (
  g_X11_type_26 Pw  o2.2 (C) (T)
  ))))))
  )
  )

set_option maxRecDepth 100000 in
set_option maxHeartbeats 4000000 in
theorem w_X11_type_0 {p : Program} {l : Launch} {e : Env} {s : State} {m : MethodId} {args : Array Value} {below : List Frame} {meth : Method} {c : Code} {Q : State → Prop} {D : va_G} {y : Nat → ClassId} {A0 : Nat → Prop} {kc kt : Nat} {Pw : Int32 → ZS → Prop} (X : CallFix p m c cX11_type 6 s args wsX11_type RX11) (hret : zQi p l e ({ frames := 2, cells := kc, slots := kt, locals := 82 } : Room) s m args below meth c Q cX11_type D y A0 .boolean Pw) {x0 : Nat} {x1 : Int64} {x3 : Int32} {S : ZS} {C T : Nat} {H : Heap} {locs : List Loc} {ls : Array Slot} (hf : g_X11_type_0 Pw x0 x1 x3 S C T) (hCT : C ≤ kc ∧ T ≤ kt) (hM : zH D y A0 s H locs S) (hl : lv_has ls 6 [(0, .ref x0), (1, .long x1), (3, .int x3)]) : W p l e ({ frames := 2, cells := kc, slots := kt, locals := 82 } : Room) s m args below meth c H locs (kc - C) (kt - T) Q (F0 m 0 ls []) := by
  obtain ⟨hx, hb, hml, hown, hts⟩ := id X
  unfold g_X11_type_0 at hf
  refine lv_iload_n hx hb dX11_type_0 rfl (lv_at hl 2 rfl) ?_
  refine lv_iconst (v := (1 : Int32)) hx hb dX11_type_1 (by decide) ?_
  refine lv_icmp_lt (tgt := 26) hx hb dX11_type_2 (by decide) (fun cc1 => ?_) (fun cc1 => ?_)
  · replace hf := m_ifPT hf cc1
    exact w_X11_type_26 X hret hf hCT hM (lv_sub hl [] rfl)
  · replace hf := m_ifPF hf cc1
    refine lv_iload_n hx hb dX11_type_5 rfl (lv_at hl 2 rfl) ?_
    refine lv_bipush (v := (8 : Int32)) hx hb dX11_type_6 (by decide) ?_
    refine lv_icmp_gt (tgt := 26) hx hb dX11_type_8 (by decide) (fun cc1 => ?_) (fun cc1 => ?_)
    · replace hf := m_ifPT hf cc1
      exact w_X11_type_26 X hret hf hCT hM (lv_sub hl [] rfl)
    · replace hf := m_ifPF hf cc1
      refine lv_aload_n hx hb dX11_type_11 rfl (lv_at hl 0 rfl) ?_
      obtain ⟨ca, hf⟩ := m_chkPE hf
      refine z_get (k := 11) (j := 0) (C := RX11) (T := TX11) (N := 10) (fl := zf_11) (v := va_rf (zP S 0 x0)) X hw_X11_type_11 hM rfl zc_11 ca (by decide) fl_X11_type_11_0 rfl dX11_type_12 ?_
      clear ca
      obtain ⟨b1, hb9, hf⟩ := m_calPE hf
      refine z_topr hb9 ?_
      clear hb9
      obtain ⟨ca, hf⟩ := m_chkPE hf
      obtain ⟨o2, ho, hf⟩ := m_calPE hf
      refine z_gcallVi (k := 6) (C := RX6) (T := TX6) (N := 2) (fl := zf_6) X hM rfl zc_6 ca (c_X6_size ho) gX11_type_X6_size rfl ⟨rfl, rfl⟩ hd_X6_size ⟨Nat.le_of_ble_eq_true rfl, Nat.le_of_ble_eq_true rfl⟩ rfl hl.1 rfl ⟨Nat.sub_le _ _, Nat.sub_le _ _⟩ (Nat.le_of_ble_eq_true rfl) dX11_type_15 (fun H locs hM => ?_)
      clear ho
      refine lv_iload_n hx hb dX11_type_18 rfl (lv_at hl 2 rfl) ?_
      refine lv_iadd hx hb dX11_type_19 ?_
      obtain ⟨v3, ev, hf⟩ := m_bndPE hf
      refine m_top ev ?_
      clear ev
      refine lv_sipush (v := (2000 : Int32)) hx hb dX11_type_20 (by decide) ?_
      refine lv_icmp_le (tgt := 28) hx hb dX11_type_23 (by decide) (fun cc1 => ?_) (fun cc1 => ?_)
      · replace hf := m_ifPT hf cc1
        refine lv_iconst (v := (0 : Int32)) hx hb dX11_type_28 (by decide) ?_
        refine lv_istore (lv' := [(4, .int (0 : Int32)), (0, .ref x0), (1, .long x1), (3, .int x3)]) hx hb dX11_type_29 hl (by decide) rfl (fun ls hl => ?_)
        exact w_X11_type_31 X hret _ x0 x1 x3 (0 : Int32) _ _ _ _ _ _ hf hCT hM (lv_sub hl [1, 2, 3, 0] rfl)
      · replace hf := m_ifPF hf cc1
        exact w_X11_type_26 X hret hf hCT hM (lv_sub hl [] rfl)
def g_X11_type (x0 : Nat) (x1 : Int64) (x3 : Int32) (S : ZS) (mc ms : Nat) (Pw : Int32 → ZS → Prop) : Prop := g_X11_type_0 Pw x0 x1 x3 S mc ms
theorem c_X11_type {l : Launch} {D : va_G} {y : Nat → ClassId} {x0 : Nat} {x1 : Int64} {x3 : Int32} {S : ZS} {kc kt : Nat} {Pw : Int32 → ZS → Prop} (hf : g_X11_type x0 x1 x3 S kc kt Pw) : zWi l yX11_type wsX11_type ({ frames := 2, cells := kc, slots := kt, locals := 82 } : Room) [.ref x0, .long x1, .int x3] D y S kc kt Pw :=
  z_wentI (own := RX11) (cc := cX11_type) (maxL := 6) (by decide) rfl rfl (Nat.le_of_ble_eq_true rfl) ⟨rfl, rfl⟩ (fun p e s m args below meth c A0 Q H locs ls X hret hM hl => w_X11_type_0 X hret hf ⟨Nat.le_refl _, Nat.le_refl _⟩ hM (lv_sub hl [0, 1, 2] rfl))
theorem hd_X11_type : yX11_type.cls = RX11 ∧ yX11_type.cls ≠ "java/lang/invoke/MethodHandle" ∧ yX11_type.cls ≠ "java/lang/invoke/VarHandle" ∧ (parseMethodDescriptor yX11_type.desc).map (fun d => d.parameters.length) = some 2 := by decide +kernel
theorem fl_X11_cut_11_0 : Cond.fieldLink RX11 10 "MoveTexts" "text" "LMoveTexts$Row;" ∈ wsX11_cut := by decide +kernel
theorem hw_X11_cut_11 : ∀ w ∈ wsX110, w ∈ wsX11_cut := by decide +kernel
def f_X11_cut_15 (S : ZS) : Option (Int32 × ZS) :=
  m_chk (vp_nar .boolean (0 : Int32) = (0 : Int32)) (some ((0 : Int32), S))

set_option maxRecDepth 100000 in
set_option maxHeartbeats 4000000 in
theorem w_X11_cut_15 {p : Program} {l : Launch} {e : Env} {s : State} {m : MethodId} {args : Array Value} {below : List Frame} {meth : Method} {c : Code} {Q : State → Prop} {D : va_G} {y : Nat → ClassId} {A0 : Nat → Prop} {o : Int32 × ZS} (X : CallFix p m c cX11_cut 2 s args wsX11_cut RX11) (hret : zRi p l e ({ frames := 1, cells := 0, slots := 0, locals := 21 } : Room) s m args below meth c Q cX11_cut D y A0 .boolean o) {S : ZS} {H : Heap} {locs : List Loc} {ls : Array Slot} (hf : f_X11_cut_15  S = some o) (hM : zH D y A0 s H locs S) (hl : lv_has ls 2 []) : W p l e ({ frames := 1, cells := 0, slots := 0, locals := 21 } : Room) s m args below meth c H locs 0 0 Q (F0 m 15 ls []) := by
  obtain ⟨hx, hb, hml, hown, hts⟩ := id X
  unfold f_X11_cut_15 at hf
  refine lv_iconst (v := (0 : Int32)) hx hb dX11_cut_15 (by decide) ?_
  obtain ⟨cd, hf⟩ := m_chkE hf
  cases hf
  exact hret H locs _ ls hM (m_nb cd) dX11_cut_16
def f_X11_cut_0 (x0 : Nat) (x1 : Int32) (S : ZS) : Option (Int32 × ZS) :=
  m_if (x1 < 0) (
  f_X11_cut_15  S
  ) (
  m_chk (x0 ∈ zL S ∧ zK S x0 = 11) (
  m_cal (zP S 0 x0) (fun b1 =>
  m_chk (b1 ∈ zL S ∧ zK S b1 = 6) (
  m_cal (f_X6_size b1 S) (fun o2 =>
  m_if (x1 ≤ o2.1) (
  m_chk (x0 ∈ zL o2.2 ∧ zK o2.2 x0 = 11) (
  m_cal (zP o2.2 0 x0) (fun b3 =>
  m_chk (b3 ∈ zL o2.2 ∧ zK o2.2 b3 = 6) (
  m_cal (f_X6_keep b3 x1 o2.2) (fun o4 =>
  m_chk (vp_nar .boolean (1 : Int32) = (1 : Int32)) (some ((1 : Int32), o4.2))))))
  ) (
  f_X11_cut_15  o2.2
  )))))
  )

set_option maxRecDepth 100000 in
set_option maxHeartbeats 4000000 in
theorem w_X11_cut_0 {p : Program} {l : Launch} {e : Env} {s : State} {m : MethodId} {args : Array Value} {below : List Frame} {meth : Method} {c : Code} {Q : State → Prop} {D : va_G} {y : Nat → ClassId} {A0 : Nat → Prop} {o : Int32 × ZS} (X : CallFix p m c cX11_cut 2 s args wsX11_cut RX11) (hret : zRi p l e ({ frames := 1, cells := 0, slots := 0, locals := 21 } : Room) s m args below meth c Q cX11_cut D y A0 .boolean o) {x0 : Nat} {x1 : Int32} {S : ZS} {H : Heap} {locs : List Loc} {ls : Array Slot} (hf : f_X11_cut_0 x0 x1 S = some o) (hM : zH D y A0 s H locs S) (hl : lv_has ls 2 [(0, .ref x0), (1, .int x1)]) : W p l e ({ frames := 1, cells := 0, slots := 0, locals := 21 } : Room) s m args below meth c H locs 0 0 Q (F0 m 0 ls []) := by
  obtain ⟨hx, hb, hml, hown, hts⟩ := id X
  unfold f_X11_cut_0 at hf
  refine lv_iload_n hx hb dX11_cut_0 rfl (lv_at hl 1 rfl) ?_
  refine lv_if_lt (tgt := 15) hx hb dX11_cut_1 (by decide) (fun cc1 => ?_) (fun cc1 => ?_)
  · replace hf := m_ifT hf cc1
    exact w_X11_cut_15 X hret hf hM (lv_sub hl [] rfl)
  · replace hf := m_ifF hf cc1
    refine lv_iload_n hx hb dX11_cut_4 rfl (lv_at hl 1 rfl) ?_
    refine lv_aload_n hx hb dX11_cut_5 rfl (lv_at hl 0 rfl) ?_
    obtain ⟨ca, hf⟩ := m_chkE hf
    refine z_get (k := 11) (j := 0) (C := RX11) (T := TX11) (N := 10) (fl := zf_11) (v := va_rf (zP S 0 x0)) X hw_X11_cut_11 hM rfl zc_11 ca (by decide) fl_X11_cut_11_0 rfl dX11_cut_6 ?_
    clear ca
    obtain ⟨b1, hb9, hf⟩ := m_calE hf
    refine z_topr hb9 ?_
    clear hb9
    obtain ⟨ca, hf⟩ := m_chkE hf
    obtain ⟨o2, ho, hf⟩ := m_calE hf
    refine z_callVi (k := 6) (C := RX6) (T := TX6) (N := 2) (fl := zf_6) X hM rfl zc_6 ca (c_X6_size ho) gX11_cut_X6_size rfl ⟨rfl, rfl⟩ hd_X6_size ⟨Nat.le_of_ble_eq_true rfl, Nat.le_of_ble_eq_true rfl⟩ rfl hl.1 rfl (Nat.le_of_ble_eq_true rfl) dX11_cut_9 (fun H locs hM => ?_)
    clear ho
    refine lv_icmp_le (tgt := 17) hx hb dX11_cut_12 (by decide) (fun cc1 => ?_) (fun cc1 => ?_)
    · replace hf := m_ifT hf cc1
      refine lv_aload_n hx hb dX11_cut_17 rfl (lv_at hl 0 rfl) ?_
      obtain ⟨ca, hf⟩ := m_chkE hf
      refine z_get (k := 11) (j := 0) (C := RX11) (T := TX11) (N := 10) (fl := zf_11) (v := va_rf (zP o2.2 0 x0)) X hw_X11_cut_11 hM rfl zc_11 ca (by decide) fl_X11_cut_11_0 rfl dX11_cut_18 ?_
      clear ca
      obtain ⟨b3, hb9, hf⟩ := m_calE hf
      refine z_topr hb9 ?_
      clear hb9
      refine lv_iload_n hx hb dX11_cut_21 rfl (lv_at hl 1 rfl) ?_
      obtain ⟨ca, hf⟩ := m_chkE hf
      obtain ⟨o4, ho, hf⟩ := m_calE hf
      refine z_callVv (k := 6) (C := RX6) (T := TX6) (N := 2) (fl := zf_6) X hM rfl zc_6 ca (c_X6_keep ho) gX11_cut_X6_keep rfl ⟨rfl, rfl⟩ hd_X6_keep ⟨Nat.le_of_ble_eq_true rfl, Nat.le_of_ble_eq_true rfl⟩ rfl hl.1 rfl (Nat.le_of_ble_eq_true rfl) dX11_cut_22 (fun H locs hM => ?_)
      clear ho
      refine lv_iconst (v := (1 : Int32)) hx hb dX11_cut_25 (by decide) ?_
      obtain ⟨cd, hf⟩ := m_chkE hf
      cases hf
      exact hret H locs _ ls hM (m_nb cd) dX11_cut_26
    · replace hf := m_ifF hf cc1
      exact w_X11_cut_15 X hret hf hM (lv_sub hl [] rfl)
def f_X11_cut (x0 : Nat) (x1 : Int32) (S : ZS) : Option (Int32 × ZS) := f_X11_cut_0 x0 x1 S
theorem c_X11_cut {l : Launch} {D : va_G} {y : Nat → ClassId} {x0 : Nat} {x1 : Int32} {S : ZS} {o : Int32 × ZS} (hf : f_X11_cut x0 x1 S = some o) : zMi l yX11_cut wsX11_cut ({ frames := 1, cells := 0, slots := 0, locals := 21 } : Room) [.ref x0, .int x1] D y S o :=
  z_entryI (own := RX11) (cc := cX11_cut) (maxL := 2) (by decide) rfl rfl (Nat.le_of_ble_eq_true rfl) (fun p e s m args below meth c A0 Q H locs ls X hret hM hl => w_X11_cut_0 X hret hf hM (lv_sub hl [0, 1] rfl))
theorem hd_X11_cut : yX11_cut.cls = RX11 ∧ yX11_cut.cls ≠ "java/lang/invoke/MethodHandle" ∧ yX11_cut.cls ≠ "java/lang/invoke/VarHandle" ∧ (parseMethodDescriptor yX11_cut.desc).map (fun d => d.parameters.length) = some 1 := by decide +kernel
theorem fl_X11_out_11_1 : Cond.fieldLink RX11 16 "MoveTexts" "out" "LMoveTexts$Row;" ∈ wsX11_out := by decide +kernel
theorem hw_X11_out_11 : ∀ w ∈ wsX110, w ∈ wsX11_out := by decide +kernel
def f_X11_out_0 (x0 : Nat) (x1 : Int32) (S : ZS) : Option (Int32 × ZS) :=
  m_chk (x0 ∈ zL S ∧ zK S x0 = 11) (
  m_cal (zP S 1 x0) (fun b1 =>
  m_chk (b1 ∈ zL S ∧ zK S b1 = 6) (
  m_cal (f_X6_at b1 x1 S) (fun o2 =>
  some (o2.1, o2.2)))))

set_option maxRecDepth 100000 in
set_option maxHeartbeats 4000000 in
theorem w_X11_out_0 {p : Program} {l : Launch} {e : Env} {s : State} {m : MethodId} {args : Array Value} {below : List Frame} {meth : Method} {c : Code} {Q : State → Prop} {D : va_G} {y : Nat → ClassId} {A0 : Nat → Prop} {o : Int32 × ZS} (X : CallFix p m c cX11_out 2 s args wsX11_out RX11) (hret : zRi p l e ({ frames := 1, cells := 0, slots := 0, locals := 21 } : Room) s m args below meth c Q cX11_out D y A0 .int o) {x0 : Nat} {x1 : Int32} {S : ZS} {H : Heap} {locs : List Loc} {ls : Array Slot} (hf : f_X11_out_0 x0 x1 S = some o) (hM : zH D y A0 s H locs S) (hl : lv_has ls 2 [(0, .ref x0), (1, .int x1)]) : W p l e ({ frames := 1, cells := 0, slots := 0, locals := 21 } : Room) s m args below meth c H locs 0 0 Q (F0 m 0 ls []) := by
  obtain ⟨hx, hb, hml, hown, hts⟩ := id X
  unfold f_X11_out_0 at hf
  refine lv_aload_n hx hb dX11_out_0 rfl (lv_at hl 0 rfl) ?_
  obtain ⟨ca, hf⟩ := m_chkE hf
  refine z_get (k := 11) (j := 1) (C := RX11) (T := TX11) (N := 10) (fl := zf_11) (v := va_rf (zP S 1 x0)) X hw_X11_out_11 hM rfl zc_11 ca (by decide) fl_X11_out_11_1 rfl dX11_out_1 ?_
  clear ca
  obtain ⟨b1, hb9, hf⟩ := m_calE hf
  refine z_topr hb9 ?_
  clear hb9
  refine lv_iload_n hx hb dX11_out_4 rfl (lv_at hl 1 rfl) ?_
  obtain ⟨ca, hf⟩ := m_chkE hf
  obtain ⟨o2, ho, hf⟩ := m_calE hf
  refine z_callVi (k := 6) (C := RX6) (T := TX6) (N := 2) (fl := zf_6) X hM rfl zc_6 ca (c_X6_at ho) gX11_out_X6_at rfl ⟨rfl, rfl⟩ hd_X6_at ⟨Nat.le_of_ble_eq_true rfl, Nat.le_of_ble_eq_true rfl⟩ rfl hl.1 rfl (Nat.le_of_ble_eq_true rfl) dX11_out_5 (fun H locs hM => ?_)
  clear ho
  cases hf
  exact hret H locs _ ls hM rfl dX11_out_8
def f_X11_out (x0 : Nat) (x1 : Int32) (S : ZS) : Option (Int32 × ZS) := f_X11_out_0 x0 x1 S
theorem c_X11_out {l : Launch} {D : va_G} {y : Nat → ClassId} {x0 : Nat} {x1 : Int32} {S : ZS} {o : Int32 × ZS} (hf : f_X11_out x0 x1 S = some o) : zMi l yX11_out wsX11_out ({ frames := 1, cells := 0, slots := 0, locals := 21 } : Room) [.ref x0, .int x1] D y S o :=
  z_entryI (own := RX11) (cc := cX11_out) (maxL := 2) (by decide) rfl rfl (Nat.le_of_ble_eq_true rfl) (fun p e s m args below meth c A0 Q H locs ls X hret hM hl => w_X11_out_0 X hret hf hM (lv_sub hl [0, 1] rfl))
theorem hd_X11_out : yX11_out.cls = RX11 ∧ yX11_out.cls ≠ "java/lang/invoke/MethodHandle" ∧ yX11_out.cls ≠ "java/lang/invoke/VarHandle" ∧ (parseMethodDescriptor yX11_out.desc).map (fun d => d.parameters.length) = some 1 := by decide +kernel
