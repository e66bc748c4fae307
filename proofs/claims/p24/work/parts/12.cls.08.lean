section
theorem hd_X9_init : yX9_init.cls = RX9 ∧ yX9_init.cls ≠ "java/lang/invoke/MethodHandle" ∧ yX9_init.cls ≠ "java/lang/invoke/VarHandle" ∧ (parseMethodDescriptor yX9_init.desc).map (fun d => d.parameters.length) = some 0 := by decide +kernel
theorem fl_X9_init_9_0 : Cond.fieldLink RX9 12 "MoveTexts$SignWriter" "rules" "LMoveTexts$Rules;" ∈ wsX9_init := by decide +kernel
theorem hw_X9_init_7 : ∀ w ∈ wsX70, w ∈ wsX9_init := by decide +kernel
theorem hw_X9_init_9 : ∀ w ∈ wsX90, w ∈ wsX9_init := by decide +kernel
theorem ii_X9_init_11 : (RX9, 11, yX7_init, "MoveTexts") ∈ zNW ∧ Cond.initialized yX7_init.cls ∈ wsX9_init ∧ Cond.instanceMethod yX7_init ∈ wsX9_init := by decide +kernel
theorem nw_X9_init_9 : Cond.classLink RX9 9 RX7 ∈ wsX9_init ∧ Cond.instantiable RX7 2 ∈ wsX9_init ∧ Cond.initialized RX7 ∈ wsX9_init := by decide +kernel
theorem ob_X9_init : (Cond.methodLink RX9 3 objectInit ∈ wsX9_init ∧ Cond.instanceMethod objectInit ∈ wsX9_init) ∧ Cond.code objectInit ⟨#[0xb1]⟩ 1 none ∈ wsX9_init := by decide +kernel
noncomputable def g_X9_init_0 (Pw : Int32 → ZS → Prop) (x0 : Nat) (S : ZS) (C T : Nat) : Prop :=
  m_newP (C) (T) 2 (zt S) (fun q1 C3 T4 =>
  m_bndP (zsNewO S q1 7 2) (fun S2 =>
  m_gal (C3) (T4) (fun mc ms Pw => g_X7_init q1 S2 mc ms Pw) (fun r6 S7 C8 T9 =>
  m_chkQ (zK S7 x0 = 9) (
  m_bndP (zsP S7 0 x0 (some q1)) (fun S10 =>
  Pw 0 S10)))))

set_option maxRecDepth 100000 in
set_option maxHeartbeats 4000000 in
theorem w_X9_init_0 {p : Program} {l : Launch} {e : Env} {s : State} {m : MethodId} {args : Array Value} {below : List Frame} {meth : Method} {c : Code} {Q : State → Prop} {D : va_G} {y : Nat → ClassId} {A0 : Nat → Prop} {kc kt : Nat} {Pw : Int32 → ZS → Prop} (X : CallFix p m c cX9_init 1 s args wsX9_init RX9) (hin : meth.name = "<init>") (hret : zQv p l e ({ frames := 3, cells := kc, slots := kt, locals := 64 } : Room) s m args below meth c Q cX9_init D y A0 Pw) {x0 : Nat} {S : ZS} {C T : Nat} {H : Heap} {locs : List Loc} {ls : Array Slot} (hf : g_X9_init_0 Pw x0 S C T) (hCT : C ≤ kc ∧ T ≤ kt) (hM : zH D y A0 s H locs S) (hl : lv_has ls 1 [(0, .ref (zh y x0))]) : W p l e ({ frames := 3, cells := kc, slots := kt, locals := 64 } : Room) s m args below meth c H locs (kc - C) (kt - T) Q (F0 m 0 ls []) := by
  obtain ⟨hx, hb, hml, hown, hts⟩ := id X
  unfold g_X9_init_0 at hf
  refine lv_aload_n hx hb dX9_init_0 rfl (lv_at hl 0 rfl) ?_
  refine z_obj X (by rw [hml]; exact hl.1.symm) ob_X9_init.1 ob_X9_init.2 (Nat.le_of_ble_eq_true rfl) (Nat.le_of_ble_eq_true rfl) dX9_init_1 ?_
  refine lv_aload_n hx hb dX9_init_4 rfl (lv_at hl 0 rfl) ?_
  obtain ⟨hcm, ho⟩ := hf
  refine z_newO (k := 7) (C := RX7) (T := TX7) (N := 2) (fl := zf_7) X hw_X9_init_7 tyX7_ok hM rfl zc_7 nw_X9_init_9 zd_7 ⟨by show kc - (C) + 1 ≤ kc; omega, by show kt - (T) + 2 ≤ kt; omega⟩ dX9_init_5 (fun q1 H hq hM => ?_)
  replace hf := ho q1 hq
  refine z_eqCS (c2 := kc - (C - 1)) (t2 := kt - (T - 2)) (by omega) (by omega) ?_
  replace hCT : C - 1 ≤ kc ∧ T - 2 ≤ kt := by omega
  generalize C - 1 = C3 at hf hCT ⊢
  generalize T - 2 = T4 at hf hCT ⊢
  obtain ⟨S2, ev, hf⟩ := m_bndPE hf
  replace hM := z_hS hM ev
  clear ev ho hcm hq
  refine lv_dup hx hb dX9_init_8 rfl ?_
  obtain ⟨mc, ms, hcm, ho⟩ := m_galE hf
  refine z_wcallINv X hM (c_X7_init ho) gX9_init_X7_init_n11 ii_X9_init_11.1 ii_X9_init_11.2.1 ii_X9_init_11.2.2 rfl rfl ⟨rfl, rfl⟩ ⟨by show kc - (C3) + mc ≤ kc; omega, by show kt - (T4) + ms ≤ kt; omega⟩ hd_X7_init.2 ⟨Nat.le_of_ble_eq_true rfl, Nat.le_of_ble_eq_true rfl⟩ rfl hl.1 rfl (Nat.le_of_ble_eq_true rfl) dX9_init_9 (fun S7 H locs hf hM => ?_)
  refine z_eqCS (c2 := kc - (C3 - mc)) (t2 := kt - (T4 - ms)) (by omega) (by omega) ?_
  replace hCT : C3 - mc ≤ kc ∧ T4 - ms ≤ kt := by omega
  generalize C3 - mc = C8 at hf hCT ⊢
  generalize T4 - ms = T9 at hf hCT ⊢
  clear ho hcm
  obtain ⟨ca, hf⟩ := m_chkPE hf
  replace ca := z_in hM (by decide) ca
  refine z_putPF (k := 9) (j := 0) (C := RX9) (T := TX9) (N := 1) (fl := zf_9) (ty := tyX9 0) X hw_X9_init_9 tyX9_ok nmX9 hM rfl zc_9 ca (by decide) fl_X9_init_9_0 rfl hin rfl (tyX9_ok 0 (by decide)) rfl rfl zp_9_0 (Nat.le_of_ble_eq_true rfl) dX9_init_12 (fun H locs hM => ?_)
  clear ca
  obtain ⟨S10, ev, hf⟩ := m_bndPE hf
  replace hM := z_hS hM ev
  clear ev
  exact hret _ _ _ H locs _ ls hf hM dX9_init_15
noncomputable def g_X9_init (x0 : Nat) (S : ZS) (mc ms : Nat) (Pw : Int32 → ZS → Prop) : Prop := g_X9_init_0 Pw x0 S mc ms
theorem c_X9_init {l : Launch} {D : va_G} {y : Nat → ClassId} {x0 : Nat} {S : ZS} {kc kt : Nat} {Pw : Int32 → ZS → Prop} (hf : g_X9_init x0 S kc kt Pw) : zWv l yX9_init wsX9_init ({ frames := 3, cells := kc, slots := kt, locals := 64 } : Room) [.ref (zh y x0)] D y S kc kt Pw :=
  z_wentC (own := RX9) (cc := cX9_init) (maxL := 1) (by decide) rfl rfl (Nat.le_of_ble_eq_true rfl) ⟨rfl, rfl⟩ rfl (fun p e s m args below meth c A0 Q H locs ls X hin hret hM hl => w_X9_init_0 X hin hret hf ⟨Nat.le_refl _, Nat.le_refl _⟩ hM (lv_sub hl [0] rfl))
theorem hd_X3_init : yX3_init.cls = RX3 ∧ yX3_init.cls ≠ "java/lang/invoke/MethodHandle" ∧ yX3_init.cls ≠ "java/lang/invoke/VarHandle" ∧ (parseMethodDescriptor yX3_init.desc).map (fun d => d.parameters.length) = some 0 := by decide +kernel
theorem fl_X3_init_3_0 : Cond.fieldLink RX3 12 "MoveTexts$GameWriter" "signWriter" "LMoveTexts$SignWriter;" ∈ wsX3_init := by decide +kernel
theorem fl_X3_init_3_1 : Cond.fieldLink RX3 20 "MoveTexts$GameWriter" "boards" "[LMoveTexts$Board;" ∈ wsX3_init := by decide +kernel
theorem hw_X3_init_0 : ∀ w ∈ wsX00, w ∈ wsX3_init := by decide +kernel
theorem hw_X3_init_3 : ∀ w ∈ wsX30, w ∈ wsX3_init := by decide +kernel
theorem hw_X3_init_9 : ∀ w ∈ wsX90, w ∈ wsX3_init := by decide +kernel
theorem ii_X3_init_11 : (RX3, 11, yX9_init, "MoveTexts") ∈ zNW ∧ Cond.initialized yX9_init.cls ∈ wsX3_init ∧ Cond.instanceMethod yX9_init ∈ wsX3_init := by decide +kernel
theorem ii_X3_init_24 : (RX3, 24, yX0_init, "MoveTexts") ∈ zNW ∧ Cond.initialized yX0_init.cls ∈ wsX3_init ∧ Cond.instanceMethod yX0_init ∈ wsX3_init := by decide +kernel
theorem na_X3_init_18 : RX0 ∈ zAO ∧ Cond.classLink RX3 18 RX0 ∈ wsX3_init := by decide +kernel
theorem nw_X3_init_18 : Cond.classLink RX3 18 RX0 ∈ wsX3_init ∧ Cond.instantiable RX0 7 ∈ wsX3_init ∧ Cond.initialized RX0 ∈ wsX3_init := by decide +kernel
theorem nw_X3_init_9 : Cond.classLink RX3 9 RX9 ∈ wsX3_init ∧ Cond.instantiable RX9 1 ∈ wsX3_init ∧ Cond.initialized RX9 ∈ wsX3_init := by decide +kernel
theorem ob_X3_init : (Cond.methodLink RX3 3 objectInit ∈ wsX3_init ∧ Cond.instanceMethod objectInit ∈ wsX3_init) ∧ Cond.code objectInit ⟨#[0xb1]⟩ 1 none ∈ wsX3_init := by decide +kernel
noncomputable def g_X3_init_26s (Pw : Int32 → ZS → Prop) (self26 : Nat → Int32 → ZS → Nat → Nat → Prop) (x0 : Nat) (x1 : Int32) (S : ZS) (C T : Nat) : Prop :=
  m_ifQ ((6 : Int32) < x1) (
  Pw 0 S
  ) (
  m_chkQ (zK S x0 = 3) (
  m_calP (zP S 1 x0) (fun b1 =>
  m_newP (C) (T) 7 (zt S) (fun q2 C4 T5 =>
  m_bndP (zsNewO S q2 0 7) (fun S3 =>
  m_gal (C4) (T5) (fun mc ms Pw => g_X0_init q2 S3 mc ms Pw) (fun r7 S8 C9 T10 =>
  m_chkQ (zK S8 b1 = 15) (
  m_chkQ (zK S8 q2 = 0) (
  m_chkQ (¬ (x1 < 0 ∨ zN S8 b1 ≤ (x1).toNatClampNeg)) (
  m_bndP (zsB S8 b1 (x1).toNatClampNeg (some q2)) (fun S11 =>
  m_bndP (x1 + (1 : Int32)) (fun v12 =>
  self26 x0 v12 S11 (C9) (T10)))))))))))
  )

set_option maxRecDepth 100000 in
set_option maxHeartbeats 4000000 in
theorem ws_X3_init_26 {p : Program} {l : Launch} {e : Env} {s : State} {m : MethodId} {args : Array Value} {below : List Frame} {meth : Method} {c : Code} {Q : State → Prop} {D : va_G} {y : Nat → ClassId} {A0 : Nat → Prop} {kc kt : Nat} {Pw : Int32 → ZS → Prop} (X : CallFix p m c cX3_init 2 s args wsX3_init RX3) (hin : meth.name = "<init>") (hret : zQv p l e ({ frames := 4, cells := kc, slots := kt, locals := 84 } : Room) s m args below meth c Q cX3_init D y A0 Pw) {self26 : Nat → Int32 → ZS → Nat → Nat → Prop} (hself26 : ∀ (x0 : Nat) (x1 : Int32) (S : ZS) (C T : Nat) (H : Heap) (locs : List Loc) (ls : Array Slot), self26 x0 x1 S C T → C ≤ kc ∧ T ≤ kt → zH D y A0 s H locs S → lv_has ls 2 [(0, .ref (zh y x0)), (1, .int x1)] → W p l e ({ frames := 4, cells := kc, slots := kt, locals := 84 } : Room) s m args below meth c H locs (kc - C) (kt - T) Q (F0 m 26 ls [])) {x0 : Nat} {x1 : Int32} {S : ZS} {C T : Nat} {H : Heap} {locs : List Loc} {ls : Array Slot} (hf : g_X3_init_26s Pw self26 x0 x1 S C T) (hCT : C ≤ kc ∧ T ≤ kt) (hM : zH D y A0 s H locs S) (hl : lv_has ls 2 [(0, .ref (zh y x0)), (1, .int x1)]) : W p l e ({ frames := 4, cells := kc, slots := kt, locals := 84 } : Room) s m args below meth c H locs (kc - C) (kt - T) Q (F0 m 26 ls []) := by
  obtain ⟨hx, hb, hml, hown, hts⟩ := id X
  unfold g_X3_init_26s at hf
  refine lv_iload_n hx hb dX3_init_26 rfl (lv_at hl 1 rfl) ?_
  refine lv_bipush (v := (6 : Int32)) hx hb dX3_init_27 (by decide) ?_
  refine lv_icmp_gt (tgt := 51) hx hb dX3_init_29 (by decide) (fun cc1 => ?_) (fun cc1 => ?_)
  · replace hf := m_ifPT hf cc1
    exact hret _ _ _ H locs _ ls hf hM dX3_init_51
  · replace hf := m_ifPF hf cc1
    refine lv_aload_n hx hb dX3_init_32 rfl (lv_at hl 0 rfl) ?_
    obtain ⟨ca, hf⟩ := m_chkPE hf
    replace ca := z_in hM (by decide) ca
    refine z_get (k := 3) (j := 1) (C := RX3) (T := TX3) (N := 2) (fl := zf_3) (v := va_rf ((zP S 1 x0).map (zh y))) X hw_X3_init_3 hM rfl zc_3 ca (by decide) fl_X3_init_3_1 rfl dX3_init_33 ?_
    clear ca
    obtain ⟨b1, hb9, hf⟩ := m_calPE hf
    refine z_topr hb9 ?_
    clear hb9
    refine lv_iload_n hx hb dX3_init_36 rfl (lv_at hl 1 rfl) ?_
    obtain ⟨hcm, ho⟩ := hf
    refine z_newO (k := 0) (C := RX0) (T := TX0) (N := 7) (fl := zf_0) X hw_X3_init_0 tyX0_ok hM rfl zc_0 nw_X3_init_18 zd_0 ⟨by show kc - (C) + 1 ≤ kc; omega, by show kt - (T) + 7 ≤ kt; omega⟩ dX3_init_37 (fun q2 H hq hM => ?_)
    replace hf := ho q2 hq
    refine z_eqCS (c2 := kc - (C - 1)) (t2 := kt - (T - 7)) (by omega) (by omega) ?_
    replace hCT : C - 1 ≤ kc ∧ T - 7 ≤ kt := by omega
    generalize C - 1 = C4 at hf hCT ⊢
    generalize T - 7 = T5 at hf hCT ⊢
    obtain ⟨S3, ev, hf⟩ := m_bndPE hf
    replace hM := z_hS hM ev
    clear ev ho hcm hq
    refine lv_dup hx hb dX3_init_40 rfl ?_
    obtain ⟨mc, ms, hcm, ho⟩ := m_galE hf
    refine z_wcallINv X hM (c_X0_init ho) gX3_init_X0_init_n24 ii_X3_init_24.1 ii_X3_init_24.2.1 ii_X3_init_24.2.2 rfl rfl ⟨rfl, rfl⟩ ⟨by show kc - (C4) + mc ≤ kc; omega, by show kt - (T5) + ms ≤ kt; omega⟩ hd_X0_init.2 ⟨Nat.le_of_ble_eq_true rfl, Nat.le_of_ble_eq_true rfl⟩ rfl hl.1 rfl (Nat.le_of_ble_eq_true rfl) dX3_init_41 (fun S8 H locs hf hM => ?_)
    refine z_eqCS (c2 := kc - (C4 - mc)) (t2 := kt - (T5 - ms)) (by omega) (by omega) ?_
    replace hCT : C4 - mc ≤ kc ∧ T5 - ms ≤ kt := by omega
    generalize C4 - mc = C9 at hf hCT ⊢
    generalize T5 - ms = T10 at hf hCT ⊢
    clear ho hcm
    obtain ⟨ca, hf⟩ := m_chkPE hf
    replace ca := z_in hM (by decide) ca
    obtain ⟨cb, hf⟩ := m_chkPE hf
    replace cb := z_in hM (by decide) cb
    obtain ⟨cd, hf⟩ := m_chkPE hf
    refine z_aast (k := 15) (t0 := 2) (kv := 0) (C := RX0) (T := TX0) (N := 7) (fl := zf_0) X hM (fun _ _ _ _ _ => rfl) rfl rfl zc_0 ca cb cd dX3_init_44 (fun H locs hM => ?_)
    clear ca cb cd
    obtain ⟨S11, ev, hf⟩ := m_bndPE hf
    replace hM := z_hS hM ev
    clear ev
    obtain ⟨v12, ev, hf⟩ := m_bndPE hf
    refine lv_iinc (v := v12) (lv' := [(1, .int v12), (0, .ref (zh y x0))]) hx hb dX3_init_45 hl (k := 1) rfl (by rw [ev]; rfl) (by decide) rfl (fun ls hl => ?_)
    clear ev
    refine lv_goto (tgt := 26) hx hb dX3_init_48 (by decide) ?_
    exact hself26 x0 v12 _ _ _ _ _ _ hf hCT hM (lv_sub hl [1, 0] rfl)
noncomputable def g_X3_init_26 (Pw : Int32 → ZS → Prop) : Nat → Nat → Int32 → ZS → Nat → Nat → Prop
  | 0 => fun _ _ _ _ _ => False
  | n + 1 => g_X3_init_26s Pw (g_X3_init_26 Pw n)
theorem w_X3_init_26 {p : Program} {l : Launch} {e : Env} {s : State} {m : MethodId} {args : Array Value} {below : List Frame} {meth : Method} {c : Code} {Q : State → Prop} {D : va_G} {y : Nat → ClassId} {A0 : Nat → Prop} {kc kt : Nat} {Pw : Int32 → ZS → Prop} (X : CallFix p m c cX3_init 2 s args wsX3_init RX3) (hin : meth.name = "<init>") (hret : zQv p l e ({ frames := 4, cells := kc, slots := kt, locals := 84 } : Room) s m args below meth c Q cX3_init D y A0 Pw) (n : Nat) : ∀ (x0 : Nat) (x1 : Int32) (S : ZS) (C T : Nat) (H : Heap) (locs : List Loc) (ls : Array Slot), g_X3_init_26 Pw n x0 x1 S C T → C ≤ kc ∧ T ≤ kt → zH D y A0 s H locs S → lv_has ls 2 [(0, .ref (zh y x0)), (1, .int x1)] → W p l e ({ frames := 4, cells := kc, slots := kt, locals := 84 } : Room) s m args below meth c H locs (kc - C) (kt - T) Q (F0 m 26 ls []) := by
  induction n with
  | zero => intro x0 x1 S C T H locs ls hf; exact absurd hf id
  | succ n ih => intro x0 x1 S C T H locs ls hf hCT hM hl; exact ws_X3_init_26 X hin hret (self26 := g_X3_init_26 Pw n) ih hf hCT hM hl
noncomputable def g_X3_init_0 (Pw : Int32 → ZS → Prop) (x0 : Nat) (S : ZS) (C T : Nat) : Prop :=
  m_newP (C) (T) 1 (zt S) (fun q1 C3 T4 =>
  m_bndP (zsNewO S q1 9 1) (fun S2 =>
  m_gal (C3) (T4) (fun mc ms Pw => g_X9_init q1 S2 mc ms Pw) (fun r6 S7 C8 T9 =>
  m_chkQ (zK S7 x0 = 3) (
  m_bndP (zsP S7 0 x0 (some q1)) (fun S10 =>
  m_chkQ (¬ (7 : Int32) < 0 ∧ ((7 : Int32)).toNatClampNeg * 4 ≤ 536870912) (
  m_newP (C8) (T9) ((7 : Int32)).toNatClampNeg (zt S10) (fun q11 C13 T14 =>
  m_bndP (zsNewA S10 q11 15 ((7 : Int32)).toNatClampNeg) (fun S12 =>
  m_chkQ (zK S12 x0 = 3) (
  m_bndP (zsP S12 1 x0 (some q11)) (fun S15 =>
  g_X3_init_26 Pw mFuel x0 (0 : Int32) S15 (C13) (T14)))))))))))

set_option maxRecDepth 100000 in
set_option maxHeartbeats 4000000 in
theorem w_X3_init_0 {p : Program} {l : Launch} {e : Env} {s : State} {m : MethodId} {args : Array Value} {below : List Frame} {meth : Method} {c : Code} {Q : State → Prop} {D : va_G} {y : Nat → ClassId} {A0 : Nat → Prop} {kc kt : Nat} {Pw : Int32 → ZS → Prop} (X : CallFix p m c cX3_init 2 s args wsX3_init RX3) (hin : meth.name = "<init>") (hret : zQv p l e ({ frames := 4, cells := kc, slots := kt, locals := 84 } : Room) s m args below meth c Q cX3_init D y A0 Pw) {x0 : Nat} {S : ZS} {C T : Nat} {H : Heap} {locs : List Loc} {ls : Array Slot} (hf : g_X3_init_0 Pw x0 S C T) (hCT : C ≤ kc ∧ T ≤ kt) (hM : zH D y A0 s H locs S) (hl : lv_has ls 2 [(0, .ref (zh y x0))]) : W p l e ({ frames := 4, cells := kc, slots := kt, locals := 84 } : Room) s m args below meth c H locs (kc - C) (kt - T) Q (F0 m 0 ls []) := by
  obtain ⟨hx, hb, hml, hown, hts⟩ := id X
  unfold g_X3_init_0 at hf
  refine lv_aload_n hx hb dX3_init_0 rfl (lv_at hl 0 rfl) ?_
  refine z_obj X (by rw [hml]; exact hl.1.symm) ob_X3_init.1 ob_X3_init.2 (Nat.le_of_ble_eq_true rfl) (Nat.le_of_ble_eq_true rfl) dX3_init_1 ?_
  refine lv_aload_n hx hb dX3_init_4 rfl (lv_at hl 0 rfl) ?_
  obtain ⟨hcm, ho⟩ := hf
  refine z_newO (k := 9) (C := RX9) (T := TX9) (N := 1) (fl := zf_9) X hw_X3_init_9 tyX9_ok hM rfl zc_9 nw_X3_init_9 zd_9 ⟨by show kc - (C) + 1 ≤ kc; omega, by show kt - (T) + 1 ≤ kt; omega⟩ dX3_init_5 (fun q1 H hq hM => ?_)
  replace hf := ho q1 hq
  refine z_eqCS (c2 := kc - (C - 1)) (t2 := kt - (T - 1)) (by omega) (by omega) ?_
  replace hCT : C - 1 ≤ kc ∧ T - 1 ≤ kt := by omega
  generalize C - 1 = C3 at hf hCT ⊢
  generalize T - 1 = T4 at hf hCT ⊢
  obtain ⟨S2, ev, hf⟩ := m_bndPE hf
  replace hM := z_hS hM ev
  clear ev ho hcm hq
  refine lv_dup hx hb dX3_init_8 rfl ?_
  obtain ⟨mc, ms, hcm, ho⟩ := m_galE hf
  refine z_wcallINv X hM (c_X9_init ho) gX3_init_X9_init_n11 ii_X3_init_11.1 ii_X3_init_11.2.1 ii_X3_init_11.2.2 rfl rfl ⟨rfl, rfl⟩ ⟨by show kc - (C3) + mc ≤ kc; omega, by show kt - (T4) + ms ≤ kt; omega⟩ hd_X9_init.2 ⟨Nat.le_of_ble_eq_true rfl, Nat.le_of_ble_eq_true rfl⟩ rfl hl.1 rfl (Nat.le_of_ble_eq_true rfl) dX3_init_9 (fun S7 H locs hf hM => ?_)
  refine z_eqCS (c2 := kc - (C3 - mc)) (t2 := kt - (T4 - ms)) (by omega) (by omega) ?_
  replace hCT : C3 - mc ≤ kc ∧ T4 - ms ≤ kt := by omega
  generalize C3 - mc = C8 at hf hCT ⊢
  generalize T4 - ms = T9 at hf hCT ⊢
  clear ho hcm
  obtain ⟨ca, hf⟩ := m_chkPE hf
  replace ca := z_in hM (by decide) ca
  refine z_putPF (k := 3) (j := 0) (C := RX3) (T := TX3) (N := 2) (fl := zf_3) (ty := tyX3 0) X hw_X3_init_3 tyX3_ok nmX3 hM rfl zc_3 ca (by decide) fl_X3_init_3_0 rfl hin rfl (tyX3_ok 0 (by decide)) rfl rfl zp_3_0 (Nat.le_of_ble_eq_true rfl) dX3_init_12 (fun H locs hM => ?_)
  clear ca
  obtain ⟨S10, ev, hf⟩ := m_bndPE hf
  replace hM := z_hS hM ev
  clear ev
  refine lv_aload_n hx hb dX3_init_15 rfl (lv_at hl 0 rfl) ?_
  refine lv_bipush (v := (7 : Int32)) hx hb dX3_init_16 (by decide) ?_
  obtain ⟨cd, hf⟩ := m_chkPE hf
  obtain ⟨hcm, ho⟩ := hf
  refine z_newR (k := 15) (t0 := 2) (C := RX0) X hM (fun _ _ _ _ _ => rfl) rfl na_X3_init_18.1 na_X3_init_18.2 cd.1 cd.2 ⟨by show kc - (C8) + 1 ≤ kc; omega, by show kt - (T9) + _ ≤ kt; omega⟩ dX3_init_18 (fun q11 H hq hM => ?_)
  replace hf := ho q11 hq
  refine z_eqCS (c2 := kc - (C8 - 1)) (t2 := kt - (T9 - ((7 : Int32)).toNatClampNeg)) (by omega) (by omega) ?_
  replace hCT : C8 - 1 ≤ kc ∧ T9 - ((7 : Int32)).toNatClampNeg ≤ kt := by omega
  generalize C8 - 1 = C13 at hf hCT ⊢
  generalize T9 - ((7 : Int32)).toNatClampNeg = T14 at hf hCT ⊢
  obtain ⟨S12, ev, hf⟩ := m_bndPE hf
  replace hM := z_hS hM ev
  clear ev ho hcm cd hq
  obtain ⟨ca, hf⟩ := m_chkPE hf
  replace ca := z_in hM (by decide) ca
  refine z_putPF (k := 3) (j := 1) (C := RX3) (T := TX3) (N := 2) (fl := zf_3) (ty := tyX3 1) X hw_X3_init_3 tyX3_ok nmX3 hM rfl zc_3 ca (by decide) fl_X3_init_3_1 rfl hin rfl (tyX3_ok 1 (by decide)) rfl rfl zp_3_1 (Nat.le_of_ble_eq_true rfl) dX3_init_21 (fun H locs hM => ?_)
  clear ca
  obtain ⟨S15, ev, hf⟩ := m_bndPE hf
  replace hM := z_hS hM ev
  clear ev
  refine lv_iconst (v := (0 : Int32)) hx hb dX3_init_24 (by decide) ?_
  refine lv_istore_n (lv' := [(1, .int (0 : Int32)), (0, .ref (zh y x0))]) hx hb dX3_init_25 rfl hl (by decide) rfl (fun ls hl => ?_)
  exact w_X3_init_26 X hin hret _ x0 (0 : Int32) _ _ _ _ _ _ hf hCT hM (lv_sub hl [1, 0] rfl)
noncomputable def g_X3_init (x0 : Nat) (S : ZS) (mc ms : Nat) (Pw : Int32 → ZS → Prop) : Prop := g_X3_init_0 Pw x0 S mc ms
theorem c_X3_init {l : Launch} {D : va_G} {y : Nat → ClassId} {x0 : Nat} {S : ZS} {kc kt : Nat} {Pw : Int32 → ZS → Prop} (hf : g_X3_init x0 S kc kt Pw) : zWv l yX3_init wsX3_init ({ frames := 4, cells := kc, slots := kt, locals := 84 } : Room) [.ref (zh y x0)] D y S kc kt Pw :=
  z_wentC (own := RX3) (cc := cX3_init) (maxL := 2) (by decide) rfl rfl (Nat.le_of_ble_eq_true rfl) ⟨rfl, rfl⟩ rfl (fun p e s m args below meth c A0 Q H locs ls X hin hret hM hl => w_X3_init_0 X hin hret hf ⟨Nat.le_refl _, Nat.le_refl _⟩ hM (lv_sub hl [0] rfl))
theorem hd_X6_putText : yX6_putText.cls = RX6 ∧ yX6_putText.cls ≠ "java/lang/invoke/MethodHandle" ∧ yX6_putText.cls ≠ "java/lang/invoke/VarHandle" ∧ (parseMethodDescriptor yX6_putText.desc).map (fun d => d.parameters.length) = some 1 := by decide +kernel
noncomputable def g_X6_putText_2s (Pw : Int32 → ZS → Prop) (self2 : Nat → Nat → Int32 → ZS → Nat → Nat → Prop) (x0 : Nat) (x1 : Nat) (x2 : Int32) (S : ZS) (C T : Nat) : Prop :=
  m_chkQ (x1 < zSn) (
  m_calP (f_J0_length_8abf5 x1 S) (fun o1 =>
  m_ifQ (o1.1 ≤ x2) (
  Pw 0 o1.2
  ) (
  m_chkQ (x1 < zSn) (
  m_calP (f_J0_charAt_5068e x1 x2 o1.2) (fun o2 =>
  m_chkQ (zK o2.2 x0 = 6) (
  m_gal (C) (T) (fun mc ms Pw => g_X6_put x0 o2.1 o2.2 mc ms Pw) (fun r4 S5 C6 T7 =>
  m_bndP (x2 + (1 : Int32)) (fun v8 =>
  self2 x0 x1 v8 S5 (C6) (T7))))))
  )))

set_option maxRecDepth 100000 in
set_option maxHeartbeats 4000000 in
theorem ws_X6_putText_2 {p : Program} {l : Launch} {e : Env} {s : State} {m : MethodId} {args : Array Value} {below : List Frame} {meth : Method} {c : Code} {Q : State → Prop} {D : va_G} {y : Nat → ClassId} {A0 : Nat → Prop} {kc kt : Nat} {Pw : Int32 → ZS → Prop} (X : CallFix p m c cX6_putText 3 s args wsX6_putText RX6) (hret : zQv p l e ({ frames := 4, cells := kc, slots := kt, locals := 85 } : Room) s m args below meth c Q cX6_putText D y A0 Pw) {self2 : Nat → Nat → Int32 → ZS → Nat → Nat → Prop} (hself2 : ∀ (x0 : Nat) (x1 : Nat) (x2 : Int32) (S : ZS) (C T : Nat) (H : Heap) (locs : List Loc) (ls : Array Slot), self2 x0 x1 x2 S C T → C ≤ kc ∧ T ≤ kt → zH D y A0 s H locs S → lv_has ls 3 [(0, .ref (zh y x0)), (1, .ref (y (100 + x1))), (2, .int x2)] → W p l e ({ frames := 4, cells := kc, slots := kt, locals := 85 } : Room) s m args below meth c H locs (kc - C) (kt - T) Q (F0 m 2 ls [])) {x0 : Nat} {x1 : Nat} {x2 : Int32} {S : ZS} {C T : Nat} {H : Heap} {locs : List Loc} {ls : Array Slot} (hf : g_X6_putText_2s Pw self2 x0 x1 x2 S C T) (hCT : C ≤ kc ∧ T ≤ kt) (hM : zH D y A0 s H locs S) (hl : lv_has ls 3 [(0, .ref (zh y x0)), (1, .ref (y (100 + x1))), (2, .int x2)]) : W p l e ({ frames := 4, cells := kc, slots := kt, locals := 85 } : Room) s m args below meth c H locs (kc - C) (kt - T) Q (F0 m 2 ls []) := by
  obtain ⟨hx, hb, hml, hown, hts⟩ := id X
  unfold g_X6_putText_2s at hf
  refine lv_iload_n hx hb dX6_putText_2 rfl (lv_at hl 2 rfl) ?_
  refine lv_aload_n hx hb dX6_putText_3 rfl (lv_at hl 1 rfl) ?_
  obtain ⟨ca, hf⟩ := m_chkPE hf
  obtain ⟨o1, ho, hf⟩ := m_calPE hf
  refine z_gcallTi X hM ca (c_J0_length_8abf5 ho) gX6_putText_J0_length_8abf5 rfl ⟨rfl, rfl⟩ hd_J0_length_8abf5 ⟨Nat.le_of_ble_eq_true rfl, Nat.le_of_ble_eq_true rfl⟩ rfl hl.1 rfl ⟨Nat.sub_le _ _, Nat.sub_le _ _⟩ (Nat.le_of_ble_eq_true rfl) dX6_putText_4 (fun H locs hM => ?_)
  clear ho
  refine lv_icmp_ge (tgt := 25) hx hb dX6_putText_7 (by decide) (fun cc1 => ?_) (fun cc1 => ?_)
  · replace hf := m_ifPT hf cc1
    exact hret _ _ _ H locs _ ls hf hM dX6_putText_25
  · replace hf := m_ifPF hf cc1
    refine lv_aload_n hx hb dX6_putText_10 rfl (lv_at hl 0 rfl) ?_
    refine lv_aload_n hx hb dX6_putText_11 rfl (lv_at hl 1 rfl) ?_
    refine lv_iload_n hx hb dX6_putText_12 rfl (lv_at hl 2 rfl) ?_
    obtain ⟨ca, hf⟩ := m_chkPE hf
    obtain ⟨o2, ho, hf⟩ := m_calPE hf
    refine z_gcallTi X hM ca (c_J0_charAt_5068e ho) gX6_putText_J0_charAt_5068e rfl ⟨rfl, rfl⟩ hd_J0_charAt_5068e ⟨Nat.le_of_ble_eq_true rfl, Nat.le_of_ble_eq_true rfl⟩ rfl hl.1 rfl ⟨Nat.sub_le _ _, Nat.sub_le _ _⟩ (Nat.le_of_ble_eq_true rfl) dX6_putText_13 (fun H locs hM => ?_)
    clear ho
    obtain ⟨ca, hf⟩ := m_chkPE hf
    replace ca := z_in hM (by decide) ca
    obtain ⟨mc, ms, hcm, ho⟩ := m_galE hf
    refine z_wcallVv (k := 6) (C := RX6) (T := TX6) (N := 2) (fl := zf_6) X hM rfl zc_6 ca (c_X6_put ho) gX6_putText_X6_put rfl ⟨rfl, rfl⟩ ⟨by show kc - (C) + mc ≤ kc; omega, by show kt - (T) + ms ≤ kt; omega⟩ hd_X6_put ⟨Nat.le_of_ble_eq_true rfl, Nat.le_of_ble_eq_true rfl⟩ rfl hl.1 rfl (Nat.le_of_ble_eq_true rfl) dX6_putText_16 (fun S5 H locs hf hM => ?_)
    refine z_eqCS (c2 := kc - (C - mc)) (t2 := kt - (T - ms)) (by omega) (by omega) ?_
    replace hCT : C - mc ≤ kc ∧ T - ms ≤ kt := by omega
    generalize C - mc = C6 at hf hCT ⊢
    generalize T - ms = T7 at hf hCT ⊢
    clear ho hcm
    obtain ⟨v8, ev, hf⟩ := m_bndPE hf
    refine lv_iinc (v := v8) (lv' := [(2, .int v8), (0, .ref (zh y x0)), (1, .ref (y (100 + x1)))]) hx hb dX6_putText_19 hl (k := 2) rfl (by rw [ev]; rfl) (by decide) rfl (fun ls hl => ?_)
    clear ev
    refine lv_goto (tgt := 2) hx hb dX6_putText_22 (by decide) ?_
    exact hself2 x0 x1 v8 _ _ _ _ _ _ hf hCT hM (lv_sub hl [1, 2, 0] rfl)
noncomputable def g_X6_putText_2 (Pw : Int32 → ZS → Prop) : Nat → Nat → Nat → Int32 → ZS → Nat → Nat → Prop
  | 0 => fun _ _ _ _ _ _ => False
  | n + 1 => g_X6_putText_2s Pw (g_X6_putText_2 Pw n)
theorem w_X6_putText_2 {p : Program} {l : Launch} {e : Env} {s : State} {m : MethodId} {args : Array Value} {below : List Frame} {meth : Method} {c : Code} {Q : State → Prop} {D : va_G} {y : Nat → ClassId} {A0 : Nat → Prop} {kc kt : Nat} {Pw : Int32 → ZS → Prop} (X : CallFix p m c cX6_putText 3 s args wsX6_putText RX6) (hret : zQv p l e ({ frames := 4, cells := kc, slots := kt, locals := 85 } : Room) s m args below meth c Q cX6_putText D y A0 Pw) (n : Nat) : ∀ (x0 : Nat) (x1 : Nat) (x2 : Int32) (S : ZS) (C T : Nat) (H : Heap) (locs : List Loc) (ls : Array Slot), g_X6_putText_2 Pw n x0 x1 x2 S C T → C ≤ kc ∧ T ≤ kt → zH D y A0 s H locs S → lv_has ls 3 [(0, .ref (zh y x0)), (1, .ref (y (100 + x1))), (2, .int x2)] → W p l e ({ frames := 4, cells := kc, slots := kt, locals := 85 } : Room) s m args below meth c H locs (kc - C) (kt - T) Q (F0 m 2 ls []) := by
  induction n with
  | zero => intro x0 x1 x2 S C T H locs ls hf; exact absurd hf id
  | succ n ih => intro x0 x1 x2 S C T H locs ls hf hCT hM hl; exact ws_X6_putText_2 X hret (self2 := g_X6_putText_2 Pw n) ih hf hCT hM hl
noncomputable def g_X6_putText_0 (Pw : Int32 → ZS → Prop) (x0 : Nat) (x1 : Nat) (S : ZS) (C T : Nat) : Prop :=
  g_X6_putText_2 Pw mFuel x0 x1 (0 : Int32) S (C) (T)

set_option maxRecDepth 100000 in
set_option maxHeartbeats 4000000 in
theorem w_X6_putText_0 {p : Program} {l : Launch} {e : Env} {s : State} {m : MethodId} {args : Array Value} {below : List Frame} {meth : Method} {c : Code} {Q : State → Prop} {D : va_G} {y : Nat → ClassId} {A0 : Nat → Prop} {kc kt : Nat} {Pw : Int32 → ZS → Prop} (X : CallFix p m c cX6_putText 3 s args wsX6_putText RX6) (hret : zQv p l e ({ frames := 4, cells := kc, slots := kt, locals := 85 } : Room) s m args below meth c Q cX6_putText D y A0 Pw) {x0 : Nat} {x1 : Nat} {S : ZS} {C T : Nat} {H : Heap} {locs : List Loc} {ls : Array Slot} (hf : g_X6_putText_0 Pw x0 x1 S C T) (hCT : C ≤ kc ∧ T ≤ kt) (hM : zH D y A0 s H locs S) (hl : lv_has ls 3 [(0, .ref (zh y x0)), (1, .ref (y (100 + x1)))]) : W p l e ({ frames := 4, cells := kc, slots := kt, locals := 85 } : Room) s m args below meth c H locs (kc - C) (kt - T) Q (F0 m 0 ls []) := by
  obtain ⟨hx, hb, hml, hown, hts⟩ := id X
  unfold g_X6_putText_0 at hf
  refine lv_iconst (v := (0 : Int32)) hx hb dX6_putText_0 (by decide) ?_
  refine lv_istore_n (lv' := [(2, .int (0 : Int32)), (0, .ref (zh y x0)), (1, .ref (y (100 + x1)))]) hx hb dX6_putText_1 rfl hl (by decide) rfl (fun ls hl => ?_)
  exact w_X6_putText_2 X hret _ x0 x1 (0 : Int32) _ _ _ _ _ _ hf hCT hM (lv_sub hl [1, 2, 0] rfl)
noncomputable def g_X6_putText (x0 : Nat) (x1 : Nat) (S : ZS) (mc ms : Nat) (Pw : Int32 → ZS → Prop) : Prop := g_X6_putText_0 Pw x0 x1 S mc ms
theorem c_X6_putText {l : Launch} {D : va_G} {y : Nat → ClassId} {x0 : Nat} {x1 : Nat} {S : ZS} {kc kt : Nat} {Pw : Int32 → ZS → Prop} (hf : g_X6_putText x0 x1 S kc kt Pw) : zWv l yX6_putText wsX6_putText ({ frames := 4, cells := kc, slots := kt, locals := 85 } : Room) [.ref (zh y x0), .ref (y (100 + x1))] D y S kc kt Pw :=
  z_wentV (own := RX6) (cc := cX6_putText) (maxL := 3) (by decide) rfl rfl (Nat.le_of_ble_eq_true rfl) ⟨rfl, rfl⟩ (fun p e s m args below meth c A0 Q H locs ls X hret hM hl => w_X6_putText_0 X hret hf ⟨Nat.le_refl _, Nat.le_refl _⟩ hM (lv_sub hl [0, 1] rfl))
theorem hd_X3_putQuoted : yX3_putQuoted.cls ≠ "java/lang/invoke/MethodHandle" ∧ yX3_putQuoted.cls ≠ "java/lang/invoke/VarHandle" ∧ (parseMethodDescriptor yX3_putQuoted.desc).map (fun d => d.parameters.length) = some 2 := by decide +kernel
noncomputable def g_X3_putQuoted_34 (Pw : Int32 → ZS → Prop) (self2 : Nat → Nat → Int32 → ZS → Nat → Nat → Prop) (x0 : Nat) (x1 : Nat) (x2 : Int32) (x3 : Int32) (S : ZS) (C T : Nat) : Prop :=
  m_chkQ (zK S x1 = 6) (
  m_gal (C) (T) (fun mc ms Pw => g_X6_put x1 x3 S mc ms Pw) (fun r2 S3 C4 T5 =>
  m_bndP (x2 + (1 : Int32)) (fun v6 =>
  self2 x0 x1 v6 S3 (C4) (T5))))

set_option maxRecDepth 100000 in
set_option maxHeartbeats 4000000 in
theorem w_X3_putQuoted_34 {p : Program} {l : Launch} {e : Env} {s : State} {m : MethodId} {args : Array Value} {below : List Frame} {meth : Method} {c : Code} {Q : State → Prop} {D : va_G} {y : Nat → ClassId} {A0 : Nat → Prop} {kc kt : Nat} {Pw : Int32 → ZS → Prop} (X : CallFix p m c cX3_putQuoted 4 s args wsX3_putQuoted RX3) (hret : zQv p l e ({ frames := 2, cells := kc, slots := kt, locals := 82 } : Room) s m args below meth c Q cX3_putQuoted D y A0 Pw) {self2 : Nat → Nat → Int32 → ZS → Nat → Nat → Prop} (hself2 : ∀ (x0 : Nat) (x1 : Nat) (x2 : Int32) (S : ZS) (C T : Nat) (H : Heap) (locs : List Loc) (ls : Array Slot), self2 x0 x1 x2 S C T → C ≤ kc ∧ T ≤ kt → zH D y A0 s H locs S → lv_has ls 4 [(0, .ref (zh y x0)), (1, .ref (zh y x1)), (2, .int x2)] → W p l e ({ frames := 2, cells := kc, slots := kt, locals := 82 } : Room) s m args below meth c H locs (kc - C) (kt - T) Q (F0 m 2 ls [])) {x0 : Nat} {x1 : Nat} {x2 : Int32} {x3 : Int32} {S : ZS} {C T : Nat} {H : Heap} {locs : List Loc} {ls : Array Slot} (hf : g_X3_putQuoted_34 Pw self2 x0 x1 x2 x3 S C T) (hCT : C ≤ kc ∧ T ≤ kt) (hM : zH D y A0 s H locs S) (hl : lv_has ls 4 [(0, .ref (zh y x0)), (1, .ref (zh y x1)), (2, .int x2), (3, .int x3)]) : W p l e ({ frames := 2, cells := kc, slots := kt, locals := 82 } : Room) s m args below meth c H locs (kc - C) (kt - T) Q (F0 m 34 ls []) := by
  obtain ⟨hx, hb, hml, hown, hts⟩ := id X
  unfold g_X3_putQuoted_34 at hf
  refine lv_aload_n hx hb dX3_putQuoted_34 rfl (lv_at hl 1 rfl) ?_
  refine lv_iload_n hx hb dX3_putQuoted_35 rfl (lv_at hl 3 rfl) ?_
  obtain ⟨ca, hf⟩ := m_chkPE hf
  replace ca := z_in hM (by decide) ca
  obtain ⟨mc, ms, hcm, ho⟩ := m_galE hf
  refine z_wcallVv (k := 6) (C := RX6) (T := TX6) (N := 2) (fl := zf_6) X hM rfl zc_6 ca (c_X6_put ho) gX3_putQuoted_X6_put rfl ⟨rfl, rfl⟩ ⟨by show kc - (C) + mc ≤ kc; omega, by show kt - (T) + ms ≤ kt; omega⟩ hd_X6_put ⟨Nat.le_of_ble_eq_true rfl, Nat.le_of_ble_eq_true rfl⟩ rfl hl.1 rfl (Nat.le_of_ble_eq_true rfl) dX3_putQuoted_36 (fun S3 H locs hf hM => ?_)
  refine z_eqCS (c2 := kc - (C - mc)) (t2 := kt - (T - ms)) (by omega) (by omega) ?_
  replace hCT : C - mc ≤ kc ∧ T - ms ≤ kt := by omega
  generalize C - mc = C4 at hf hCT ⊢
  generalize T - ms = T5 at hf hCT ⊢
  clear ho hcm
  obtain ⟨v6, ev, hf⟩ := m_bndPE hf
  refine lv_iinc (v := v6) (lv' := [(2, .int v6), (0, .ref (zh y x0)), (1, .ref (zh y x1)), (3, .int x3)]) hx hb dX3_putQuoted_39 hl (k := 2) rfl (by rw [ev]; rfl) (by decide) rfl (fun ls hl => ?_)
  clear ev
  refine lv_goto (tgt := 2) hx hb dX3_putQuoted_42 (by decide) ?_
  exact hself2 x0 x1 v6 _ _ _ _ _ _ hf hCT hM (lv_sub hl [1, 2, 0] rfl)
noncomputable def g_X3_putQuoted_28 (Pw : Int32 → ZS → Prop) (self2 : Nat → Nat → Int32 → ZS → Nat → Nat → Prop) (x0 : Nat) (x1 : Nat) (x2 : Int32) (x3 : Int32) (S : ZS) (C T : Nat) : Prop :=
  m_chkQ (zK S x1 = 6) (
  m_gal (C) (T) (fun mc ms Pw => g_X6_put x1 (92 : Int32) S mc ms Pw) (fun r2 S3 C4 T5 =>
  g_X3_putQuoted_34 Pw self2 x0 x1 x2 x3 S3 (C4) (T5)))

set_option maxRecDepth 100000 in
set_option maxHeartbeats 4000000 in
theorem w_X3_putQuoted_28 {p : Program} {l : Launch} {e : Env} {s : State} {m : MethodId} {args : Array Value} {below : List Frame} {meth : Method} {c : Code} {Q : State → Prop} {D : va_G} {y : Nat → ClassId} {A0 : Nat → Prop} {kc kt : Nat} {Pw : Int32 → ZS → Prop} (X : CallFix p m c cX3_putQuoted 4 s args wsX3_putQuoted RX3) (hret : zQv p l e ({ frames := 2, cells := kc, slots := kt, locals := 82 } : Room) s m args below meth c Q cX3_putQuoted D y A0 Pw) {self2 : Nat → Nat → Int32 → ZS → Nat → Nat → Prop} (hself2 : ∀ (x0 : Nat) (x1 : Nat) (x2 : Int32) (S : ZS) (C T : Nat) (H : Heap) (locs : List Loc) (ls : Array Slot), self2 x0 x1 x2 S C T → C ≤ kc ∧ T ≤ kt → zH D y A0 s H locs S → lv_has ls 4 [(0, .ref (zh y x0)), (1, .ref (zh y x1)), (2, .int x2)] → W p l e ({ frames := 2, cells := kc, slots := kt, locals := 82 } : Room) s m args below meth c H locs (kc - C) (kt - T) Q (F0 m 2 ls [])) {x0 : Nat} {x1 : Nat} {x2 : Int32} {x3 : Int32} {S : ZS} {C T : Nat} {H : Heap} {locs : List Loc} {ls : Array Slot} (hf : g_X3_putQuoted_28 Pw self2 x0 x1 x2 x3 S C T) (hCT : C ≤ kc ∧ T ≤ kt) (hM : zH D y A0 s H locs S) (hl : lv_has ls 4 [(0, .ref (zh y x0)), (1, .ref (zh y x1)), (2, .int x2), (3, .int x3)]) : W p l e ({ frames := 2, cells := kc, slots := kt, locals := 82 } : Room) s m args below meth c H locs (kc - C) (kt - T) Q (F0 m 28 ls []) := by
  obtain ⟨hx, hb, hml, hown, hts⟩ := id X
  unfold g_X3_putQuoted_28 at hf
  refine lv_aload_n hx hb dX3_putQuoted_28 rfl (lv_at hl 1 rfl) ?_
  refine lv_bipush (v := (92 : Int32)) hx hb dX3_putQuoted_29 (by decide) ?_
  obtain ⟨ca, hf⟩ := m_chkPE hf
  replace ca := z_in hM (by decide) ca
  obtain ⟨mc, ms, hcm, ho⟩ := m_galE hf
  refine z_wcallVv (k := 6) (C := RX6) (T := TX6) (N := 2) (fl := zf_6) X hM rfl zc_6 ca (c_X6_put ho) gX3_putQuoted_X6_put rfl ⟨rfl, rfl⟩ ⟨by show kc - (C) + mc ≤ kc; omega, by show kt - (T) + ms ≤ kt; omega⟩ hd_X6_put ⟨Nat.le_of_ble_eq_true rfl, Nat.le_of_ble_eq_true rfl⟩ rfl hl.1 rfl (Nat.le_of_ble_eq_true rfl) dX3_putQuoted_31 (fun S3 H locs hf hM => ?_)
  refine z_eqCS (c2 := kc - (C - mc)) (t2 := kt - (T - ms)) (by omega) (by omega) ?_
  replace hCT : C - mc ≤ kc ∧ T - ms ≤ kt := by omega
  generalize C - mc = C4 at hf hCT ⊢
  generalize T - ms = T5 at hf hCT ⊢
  clear ho hcm
  exact w_X3_putQuoted_34 (x0 := x0) (x1 := x1) (x2 := x2) (x3 := x3) X hret hself2 hf hCT hM (lv_sub hl [0, 1, 2, 3] rfl)
noncomputable def g_X3_putQuoted_2s (Pw : Int32 → ZS → Prop) (self2 : Nat → Nat → Int32 → ZS → Nat → Nat → Prop) (x0 : Nat) (x1 : Nat) (x2 : Int32) (S : ZS) (C T : Nat) : Prop :=
  m_chkQ (zK S x0 = 6) (
  m_calP (f_X6_size x0 S) (fun o1 =>
  m_ifQ (o1.1 ≤ x2) (
  Pw 0 o1.2
  ) (
  m_chkQ (zK o1.2 x0 = 6) (
  m_calP (f_X6_at x0 x2 o1.2) (fun o2 =>
  m_ifQ (o2.1 = (34 : Int32)) (
  g_X3_putQuoted_28 Pw self2 x0 x1 x2 o2.1 o2.2 (C) (T)
  ) (
  m_ifQ (o2.1 = (92 : Int32)) (
  g_X3_putQuoted_28 Pw self2 x0 x1 x2 o2.1 o2.2 (C) (T)
  ) (
  g_X3_putQuoted_34 Pw self2 x0 x1 x2 o2.1 o2.2 (C) (T)
  )
  )))
  )))

set_option maxRecDepth 100000 in
set_option maxHeartbeats 4000000 in
theorem ws_X3_putQuoted_2 {p : Program} {l : Launch} {e : Env} {s : State} {m : MethodId} {args : Array Value} {below : List Frame} {meth : Method} {c : Code} {Q : State → Prop} {D : va_G} {y : Nat → ClassId} {A0 : Nat → Prop} {kc kt : Nat} {Pw : Int32 → ZS → Prop} (X : CallFix p m c cX3_putQuoted 4 s args wsX3_putQuoted RX3) (hret : zQv p l e ({ frames := 2, cells := kc, slots := kt, locals := 82 } : Room) s m args below meth c Q cX3_putQuoted D y A0 Pw) {self2 : Nat → Nat → Int32 → ZS → Nat → Nat → Prop} (hself2 : ∀ (x0 : Nat) (x1 : Nat) (x2 : Int32) (S : ZS) (C T : Nat) (H : Heap) (locs : List Loc) (ls : Array Slot), self2 x0 x1 x2 S C T → C ≤ kc ∧ T ≤ kt → zH D y A0 s H locs S → lv_has ls 4 [(0, .ref (zh y x0)), (1, .ref (zh y x1)), (2, .int x2)] → W p l e ({ frames := 2, cells := kc, slots := kt, locals := 82 } : Room) s m args below meth c H locs (kc - C) (kt - T) Q (F0 m 2 ls [])) {x0 : Nat} {x1 : Nat} {x2 : Int32} {S : ZS} {C T : Nat} {H : Heap} {locs : List Loc} {ls : Array Slot} (hf : g_X3_putQuoted_2s Pw self2 x0 x1 x2 S C T) (hCT : C ≤ kc ∧ T ≤ kt) (hM : zH D y A0 s H locs S) (hl : lv_has ls 4 [(0, .ref (zh y x0)), (1, .ref (zh y x1)), (2, .int x2)]) : W p l e ({ frames := 2, cells := kc, slots := kt, locals := 82 } : Room) s m args below meth c H locs (kc - C) (kt - T) Q (F0 m 2 ls []) := by
  obtain ⟨hx, hb, hml, hown, hts⟩ := id X
  unfold g_X3_putQuoted_2s at hf
  refine lv_iload_n hx hb dX3_putQuoted_2 rfl (lv_at hl 2 rfl) ?_
  refine lv_aload_n hx hb dX3_putQuoted_3 rfl (lv_at hl 0 rfl) ?_
  obtain ⟨ca, hf⟩ := m_chkPE hf
  replace ca := z_in hM (by decide) ca
  obtain ⟨o1, ho, hf⟩ := m_calPE hf
  refine z_gcallVi (k := 6) (C := RX6) (T := TX6) (N := 2) (fl := zf_6) X hM rfl zc_6 ca (c_X6_size ho) gX3_putQuoted_X6_size rfl ⟨rfl, rfl⟩ hd_X6_size ⟨Nat.le_of_ble_eq_true rfl, Nat.le_of_ble_eq_true rfl⟩ rfl hl.1 rfl ⟨Nat.sub_le _ _, Nat.sub_le _ _⟩ (Nat.le_of_ble_eq_true rfl) dX3_putQuoted_4 (fun H locs hM => ?_)
  clear ho
  refine lv_icmp_ge (tgt := 45) hx hb dX3_putQuoted_7 (by decide) (fun cc1 => ?_) (fun cc1 => ?_)
  · replace hf := m_ifPT hf cc1
    exact hret _ _ _ H locs _ ls hf hM dX3_putQuoted_45
  · replace hf := m_ifPF hf cc1
    refine lv_aload_n hx hb dX3_putQuoted_10 rfl (lv_at hl 0 rfl) ?_
    refine lv_iload_n hx hb dX3_putQuoted_11 rfl (lv_at hl 2 rfl) ?_
    obtain ⟨ca, hf⟩ := m_chkPE hf
    replace ca := z_in hM (by decide) ca
    obtain ⟨o2, ho, hf⟩ := m_calPE hf
    refine z_gcallVi (k := 6) (C := RX6) (T := TX6) (N := 2) (fl := zf_6) X hM rfl zc_6 ca (c_X6_at ho) gX3_putQuoted_X6_at rfl ⟨rfl, rfl⟩ hd_X6_at ⟨Nat.le_of_ble_eq_true rfl, Nat.le_of_ble_eq_true rfl⟩ rfl hl.1 rfl ⟨Nat.sub_le _ _, Nat.sub_le _ _⟩ (Nat.le_of_ble_eq_true rfl) dX3_putQuoted_12 (fun H locs hM => ?_)
    clear ho
    refine lv_istore_n (lv' := [(3, .int o2.1), (0, .ref (zh y x0)), (1, .ref (zh y x1)), (2, .int x2)]) hx hb dX3_putQuoted_15 rfl hl (by decide) rfl (fun ls hl => ?_)
    refine lv_iload_n hx hb dX3_putQuoted_16 rfl (lv_at hl 0 rfl) ?_
    refine lv_bipush (v := (34 : Int32)) hx hb dX3_putQuoted_17 (by decide) ?_
    refine lv_icmp_eq (tgt := 28) hx hb dX3_putQuoted_19 (by decide) (fun cc1 => ?_) (fun cc1 => ?_)
    · replace hf := m_ifPT hf cc1
      exact w_X3_putQuoted_28 (x0 := x0) (x1 := x1) (x2 := x2) (x3 := o2.1) X hret hself2 hf hCT hM (lv_sub hl [1, 2, 3, 0] rfl)
    · replace hf := m_ifPF hf cc1
      refine lv_iload_n hx hb dX3_putQuoted_22 rfl (lv_at hl 0 rfl) ?_
      refine lv_bipush (v := (92 : Int32)) hx hb dX3_putQuoted_23 (by decide) ?_
      refine lv_icmp_ne (tgt := 34) hx hb dX3_putQuoted_25 (by decide) (fun cc1 => ?_) (fun cc1 => ?_)
      · replace hf := m_ifPF hf cc1
        exact w_X3_putQuoted_34 (x0 := x0) (x1 := x1) (x2 := x2) (x3 := o2.1) X hret hself2 hf hCT hM (lv_sub hl [1, 2, 3, 0] rfl)
      · replace hf := m_ifPT hf cc1
        exact w_X3_putQuoted_28 (x0 := x0) (x1 := x1) (x2 := x2) (x3 := o2.1) X hret hself2 hf hCT hM (lv_sub hl [1, 2, 3, 0] rfl)
noncomputable def g_X3_putQuoted_2 (Pw : Int32 → ZS → Prop) : Nat → Nat → Nat → Int32 → ZS → Nat → Nat → Prop
  | 0 => fun _ _ _ _ _ _ => False
  | n + 1 => g_X3_putQuoted_2s Pw (g_X3_putQuoted_2 Pw n)
theorem w_X3_putQuoted_2 {p : Program} {l : Launch} {e : Env} {s : State} {m : MethodId} {args : Array Value} {below : List Frame} {meth : Method} {c : Code} {Q : State → Prop} {D : va_G} {y : Nat → ClassId} {A0 : Nat → Prop} {kc kt : Nat} {Pw : Int32 → ZS → Prop} (X : CallFix p m c cX3_putQuoted 4 s args wsX3_putQuoted RX3) (hret : zQv p l e ({ frames := 2, cells := kc, slots := kt, locals := 82 } : Room) s m args below meth c Q cX3_putQuoted D y A0 Pw) (n : Nat) : ∀ (x0 : Nat) (x1 : Nat) (x2 : Int32) (S : ZS) (C T : Nat) (H : Heap) (locs : List Loc) (ls : Array Slot), g_X3_putQuoted_2 Pw n x0 x1 x2 S C T → C ≤ kc ∧ T ≤ kt → zH D y A0 s H locs S → lv_has ls 4 [(0, .ref (zh y x0)), (1, .ref (zh y x1)), (2, .int x2)] → W p l e ({ frames := 2, cells := kc, slots := kt, locals := 82 } : Room) s m args below meth c H locs (kc - C) (kt - T) Q (F0 m 2 ls []) := by
  induction n with
  | zero => intro x0 x1 x2 S C T H locs ls hf; exact absurd hf id
  | succ n ih => intro x0 x1 x2 S C T H locs ls hf hCT hM hl; exact ws_X3_putQuoted_2 X hret (self2 := g_X3_putQuoted_2 Pw n) ih hf hCT hM hl
noncomputable def g_X3_putQuoted_0 (Pw : Int32 → ZS → Prop) (x0 : Nat) (x1 : Nat) (S : ZS) (C T : Nat) : Prop :=
  g_X3_putQuoted_2 Pw mFuel x0 x1 (0 : Int32) S (C) (T)

set_option maxRecDepth 100000 in
set_option maxHeartbeats 4000000 in
theorem w_X3_putQuoted_0 {p : Program} {l : Launch} {e : Env} {s : State} {m : MethodId} {args : Array Value} {below : List Frame} {meth : Method} {c : Code} {Q : State → Prop} {D : va_G} {y : Nat → ClassId} {A0 : Nat → Prop} {kc kt : Nat} {Pw : Int32 → ZS → Prop} (X : CallFix p m c cX3_putQuoted 4 s args wsX3_putQuoted RX3) (hret : zQv p l e ({ frames := 2, cells := kc, slots := kt, locals := 82 } : Room) s m args below meth c Q cX3_putQuoted D y A0 Pw) {x0 : Nat} {x1 : Nat} {S : ZS} {C T : Nat} {H : Heap} {locs : List Loc} {ls : Array Slot} (hf : g_X3_putQuoted_0 Pw x0 x1 S C T) (hCT : C ≤ kc ∧ T ≤ kt) (hM : zH D y A0 s H locs S) (hl : lv_has ls 4 [(0, .ref (zh y x0)), (1, .ref (zh y x1))]) : W p l e ({ frames := 2, cells := kc, slots := kt, locals := 82 } : Room) s m args below meth c H locs (kc - C) (kt - T) Q (F0 m 0 ls []) := by
  obtain ⟨hx, hb, hml, hown, hts⟩ := id X
  unfold g_X3_putQuoted_0 at hf
  refine lv_iconst (v := (0 : Int32)) hx hb dX3_putQuoted_0 (by decide) ?_
  refine lv_istore_n (lv' := [(2, .int (0 : Int32)), (0, .ref (zh y x0)), (1, .ref (zh y x1))]) hx hb dX3_putQuoted_1 rfl hl (by decide) rfl (fun ls hl => ?_)
  exact w_X3_putQuoted_2 X hret _ x0 x1 (0 : Int32) _ _ _ _ _ _ hf hCT hM (lv_sub hl [1, 2, 0] rfl)
noncomputable def g_X3_putQuoted (x0 : Nat) (x1 : Nat) (S : ZS) (mc ms : Nat) (Pw : Int32 → ZS → Prop) : Prop := g_X3_putQuoted_0 Pw x0 x1 S mc ms
theorem c_X3_putQuoted {l : Launch} {D : va_G} {y : Nat → ClassId} {x0 : Nat} {x1 : Nat} {S : ZS} {kc kt : Nat} {Pw : Int32 → ZS → Prop} (hf : g_X3_putQuoted x0 x1 S kc kt Pw) : zWv l yX3_putQuoted wsX3_putQuoted ({ frames := 2, cells := kc, slots := kt, locals := 82 } : Room) [.ref (zh y x0), .ref (zh y x1)] D y S kc kt Pw :=
  z_wentV (own := RX3) (cc := cX3_putQuoted) (maxL := 4) (by decide) rfl rfl (Nat.le_of_ble_eq_true rfl) ⟨rfl, rfl⟩ (fun p e s m args below meth c A0 Q H locs ls X hret hM hl => w_X3_putQuoted_0 X hret hf ⟨Nat.le_refl _, Nat.le_refl _⟩ hM (lv_sub hl [0, 1] rfl))
theorem hd_X3_putGap : yX3_putGap.cls ≠ "java/lang/invoke/MethodHandle" ∧ yX3_putGap.cls ≠ "java/lang/invoke/VarHandle" ∧ (parseMethodDescriptor yX3_putGap.desc).map (fun d => d.parameters.length) = some 1 := by decide +kernel
noncomputable def g_X3_putGap_33 (Pw : Int32 → ZS → Prop) (S : ZS) (C T : Nat) : Prop :=
  Pw 0 S

set_option maxRecDepth 100000 in
set_option maxHeartbeats 4000000 in
theorem w_X3_putGap_33 {p : Program} {l : Launch} {e : Env} {s : State} {m : MethodId} {args : Array Value} {below : List Frame} {meth : Method} {c : Code} {Q : State → Prop} {D : va_G} {y : Nat → ClassId} {A0 : Nat → Prop} {kc kt : Nat} {Pw : Int32 → ZS → Prop} (X : CallFix p m c cX3_putGap 2 s args wsX3_putGap RX3) (hret : zQv p l e ({ frames := 2, cells := kc, slots := kt, locals := 82 } : Room) s m args below meth c Q cX3_putGap D y A0 Pw) {S : ZS} {C T : Nat} {H : Heap} {locs : List Loc} {ls : Array Slot} (hf : g_X3_putGap_33 Pw  S C T) (hCT : C ≤ kc ∧ T ≤ kt) (hM : zH D y A0 s H locs S) (hl : lv_has ls 2 []) : W p l e ({ frames := 2, cells := kc, slots := kt, locals := 82 } : Room) s m args below meth c H locs (kc - C) (kt - T) Q (F0 m 33 ls []) := by
  obtain ⟨hx, hb, hml, hown, hts⟩ := id X
  unfold g_X3_putGap_33 at hf
  exact hret _ _ _ H locs _ ls hf hM dX3_putGap_33
noncomputable def g_X3_putGap_0 (Pw : Int32 → ZS → Prop) (x0 : Nat) (S : ZS) (C T : Nat) : Prop :=
  m_chkQ (zK S x0 = 6) (
  m_calP (f_X6_size x0 S) (fun o1 =>
  m_bndP (o1.1 - (1 : Int32)) (fun v2 =>
  m_chkQ (zK o1.2 x0 = 6) (
  m_calP (f_X6_at x0 v2 o1.2) (fun o3 =>
  m_ifQ (o3.1 = 0) (
  g_X3_putGap_33 Pw  o3.2 (C) (T)
  ) (
  m_ifQ (o3.1 = (10 : Int32)) (
  g_X3_putGap_33 Pw  o3.2 (C) (T)
  ) (
  m_ifQ (o3.1 = (40 : Int32)) (
  g_X3_putGap_33 Pw  o3.2 (C) (T)
  ) (
  m_chkQ (zK o3.2 x0 = 6) (
  m_gal (C) (T) (fun mc ms Pw => g_X6_put x0 (32 : Int32) o3.2 mc ms Pw) (fun r5 S6 C7 T8 =>
  g_X3_putGap_33 Pw  S6 (C7) (T8)))
  )
  )
  ))))))

set_option maxRecDepth 100000 in
set_option maxHeartbeats 4000000 in
theorem w_X3_putGap_0 {p : Program} {l : Launch} {e : Env} {s : State} {m : MethodId} {args : Array Value} {below : List Frame} {meth : Method} {c : Code} {Q : State → Prop} {D : va_G} {y : Nat → ClassId} {A0 : Nat → Prop} {kc kt : Nat} {Pw : Int32 → ZS → Prop} (X : CallFix p m c cX3_putGap 2 s args wsX3_putGap RX3) (hret : zQv p l e ({ frames := 2, cells := kc, slots := kt, locals := 82 } : Room) s m args below meth c Q cX3_putGap D y A0 Pw) {x0 : Nat} {S : ZS} {C T : Nat} {H : Heap} {locs : List Loc} {ls : Array Slot} (hf : g_X3_putGap_0 Pw x0 S C T) (hCT : C ≤ kc ∧ T ≤ kt) (hM : zH D y A0 s H locs S) (hl : lv_has ls 2 [(0, .ref (zh y x0))]) : W p l e ({ frames := 2, cells := kc, slots := kt, locals := 82 } : Room) s m args below meth c H locs (kc - C) (kt - T) Q (F0 m 0 ls []) := by
  obtain ⟨hx, hb, hml, hown, hts⟩ := id X
  unfold g_X3_putGap_0 at hf
  refine lv_aload_n hx hb dX3_putGap_0 rfl (lv_at hl 0 rfl) ?_
  refine lv_aload_n hx hb dX3_putGap_1 rfl (lv_at hl 0 rfl) ?_
  obtain ⟨ca, hf⟩ := m_chkPE hf
  replace ca := z_in hM (by decide) ca
  obtain ⟨o1, ho, hf⟩ := m_calPE hf
  refine z_gcallVi (k := 6) (C := RX6) (T := TX6) (N := 2) (fl := zf_6) X hM rfl zc_6 ca (c_X6_size ho) gX3_putGap_X6_size rfl ⟨rfl, rfl⟩ hd_X6_size ⟨Nat.le_of_ble_eq_true rfl, Nat.le_of_ble_eq_true rfl⟩ rfl hl.1 rfl ⟨Nat.sub_le _ _, Nat.sub_le _ _⟩ (Nat.le_of_ble_eq_true rfl) dX3_putGap_2 (fun H locs hM => ?_)
  clear ho
  refine lv_iconst (v := (1 : Int32)) hx hb dX3_putGap_5 (by decide) ?_
  refine lv_isub hx hb dX3_putGap_6 ?_
  obtain ⟨v2, ev, hf⟩ := m_bndPE hf
  refine m_top ev ?_
  clear ev
  obtain ⟨ca, hf⟩ := m_chkPE hf
  replace ca := z_in hM (by decide) ca
  obtain ⟨o3, ho, hf⟩ := m_calPE hf
  refine z_gcallVi (k := 6) (C := RX6) (T := TX6) (N := 2) (fl := zf_6) X hM rfl zc_6 ca (c_X6_at ho) gX3_putGap_X6_at rfl ⟨rfl, rfl⟩ hd_X6_at ⟨Nat.le_of_ble_eq_true rfl, Nat.le_of_ble_eq_true rfl⟩ rfl hl.1 rfl ⟨Nat.sub_le _ _, Nat.sub_le _ _⟩ (Nat.le_of_ble_eq_true rfl) dX3_putGap_7 (fun H locs hM => ?_)
  clear ho
  refine lv_istore_n (lv' := [(1, .int o3.1), (0, .ref (zh y x0))]) hx hb dX3_putGap_10 rfl hl (by decide) rfl (fun ls hl => ?_)
  refine lv_iload_n hx hb dX3_putGap_11 rfl (lv_at hl 0 rfl) ?_
  refine lv_if_eq (tgt := 33) hx hb dX3_putGap_12 (by decide) (fun cc1 => ?_) (fun cc1 => ?_)
  · replace hf := m_ifPT hf cc1
    exact w_X3_putGap_33 X hret hf hCT hM (lv_sub hl [] rfl)
  · replace hf := m_ifPF hf cc1
    refine lv_iload_n hx hb dX3_putGap_15 rfl (lv_at hl 0 rfl) ?_
    refine lv_bipush (v := (10 : Int32)) hx hb dX3_putGap_16 (by decide) ?_
    refine lv_icmp_eq (tgt := 33) hx hb dX3_putGap_18 (by decide) (fun cc1 => ?_) (fun cc1 => ?_)
    · replace hf := m_ifPT hf cc1
      exact w_X3_putGap_33 X hret hf hCT hM (lv_sub hl [] rfl)
    · replace hf := m_ifPF hf cc1
      refine lv_iload_n hx hb dX3_putGap_21 rfl (lv_at hl 0 rfl) ?_
      refine lv_bipush (v := (40 : Int32)) hx hb dX3_putGap_22 (by decide) ?_
      refine lv_icmp_eq (tgt := 33) hx hb dX3_putGap_24 (by decide) (fun cc1 => ?_) (fun cc1 => ?_)
      · replace hf := m_ifPT hf cc1
        exact w_X3_putGap_33 X hret hf hCT hM (lv_sub hl [] rfl)
      · replace hf := m_ifPF hf cc1
        refine lv_aload_n hx hb dX3_putGap_27 rfl (lv_at hl 1 rfl) ?_
        refine lv_bipush (v := (32 : Int32)) hx hb dX3_putGap_28 (by decide) ?_
        obtain ⟨ca, hf⟩ := m_chkPE hf
        replace ca := z_in hM (by decide) ca
        obtain ⟨mc, ms, hcm, ho⟩ := m_galE hf
        refine z_wcallVv (k := 6) (C := RX6) (T := TX6) (N := 2) (fl := zf_6) X hM rfl zc_6 ca (c_X6_put ho) gX3_putGap_X6_put rfl ⟨rfl, rfl⟩ ⟨by show kc - (C) + mc ≤ kc; omega, by show kt - (T) + ms ≤ kt; omega⟩ hd_X6_put ⟨Nat.le_of_ble_eq_true rfl, Nat.le_of_ble_eq_true rfl⟩ rfl hl.1 rfl (Nat.le_of_ble_eq_true rfl) dX3_putGap_30 (fun S6 H locs hf hM => ?_)
        refine z_eqCS (c2 := kc - (C - mc)) (t2 := kt - (T - ms)) (by omega) (by omega) ?_
        replace hCT : C - mc ≤ kc ∧ T - ms ≤ kt := by omega
        generalize C - mc = C7 at hf hCT ⊢
        generalize T - ms = T8 at hf hCT ⊢
        clear ho hcm
        exact w_X3_putGap_33 X hret hf hCT hM (lv_sub hl [] rfl)
noncomputable def g_X3_putGap (x0 : Nat) (S : ZS) (mc ms : Nat) (Pw : Int32 → ZS → Prop) : Prop := g_X3_putGap_0 Pw x0 S mc ms
theorem c_X3_putGap {l : Launch} {D : va_G} {y : Nat → ClassId} {x0 : Nat} {S : ZS} {kc kt : Nat} {Pw : Int32 → ZS → Prop} (hf : g_X3_putGap x0 S kc kt Pw) : zWv l yX3_putGap wsX3_putGap ({ frames := 2, cells := kc, slots := kt, locals := 82 } : Room) [.ref (zh y x0)] D y S kc kt Pw :=
  z_wentV (own := RX3) (cc := cX3_putGap) (maxL := 2) (by decide) rfl rfl (Nat.le_of_ble_eq_true rfl) ⟨rfl, rfl⟩ (fun p e s m args below meth c A0 Q H locs ls X hret hM hl => w_X3_putGap_0 X hret hf ⟨Nat.le_refl _, Nat.le_refl _⟩ hM (lv_sub hl [0] rfl))
theorem hd_X3_putRemark : yX3_putRemark.cls ≠ "java/lang/invoke/MethodHandle" ∧ yX3_putRemark.cls ≠ "java/lang/invoke/VarHandle" ∧ (parseMethodDescriptor yX3_putRemark.desc).map (fun d => d.parameters.length) = some 2 := by decide +kernel
theorem fl_X3_putRemark_4_6 : Cond.fieldLink RX3 99 "MoveTexts$Node" "remark" "LMoveTexts$Row;" ∈ wsX3_putRemark := by decide +kernel
theorem hw_X3_putRemark_4 : ∀ w ∈ wsX40, w ∈ wsX3_putRemark := by decide +kernel
noncomputable def g_X3_putRemark_0 (Pw : Int32 → ZS → Prop) (x0 : Nat) (x1 : Nat) (S : ZS) (C T : Nat) : Prop :=
  m_chkQ (zK S x0 = 4) (
  m_calP (zP S 6 x0) (fun b1 =>
  m_chkQ (zK S b1 = 6) (
  m_calP (f_X6_size b1 S) (fun o2 =>
  m_ifQ (o2.1 = 0) (
  Pw 0 o2.2
  ) (
  m_gal (C) (T) (fun mc ms Pw => g_X3_putGap x1 o2.2 mc ms Pw) (fun r4 S5 C6 T7 =>
  m_chkQ (zK S5 x1 = 6) (
  m_gal (C6) (T7) (fun mc ms Pw => g_X6_put x1 (123 : Int32) S5 mc ms Pw) (fun r9 S10 C11 T12 =>
  m_chkQ (zK S10 x0 = 4) (
  m_calP (zP S10 6 x0) (fun b13 =>
  m_chkQ (zK S10 x1 = 6) (
  m_gal (C11) (T12) (fun mc ms Pw => g_X6_putAll x1 b13 S10 mc ms Pw) (fun r15 S16 C17 T18 =>
  m_chkQ (zK S16 x1 = 6) (
  m_gal (C17) (T18) (fun mc ms Pw => g_X6_put x1 (125 : Int32) S16 mc ms Pw) (fun r20 S21 C22 T23 =>
  Pw 0 S21)))))))))
  )))))

set_option maxRecDepth 100000 in
set_option maxHeartbeats 4000000 in
theorem w_X3_putRemark_0 {p : Program} {l : Launch} {e : Env} {s : State} {m : MethodId} {args : Array Value} {below : List Frame} {meth : Method} {c : Code} {Q : State → Prop} {D : va_G} {y : Nat → ClassId} {A0 : Nat → Prop} {kc kt : Nat} {Pw : Int32 → ZS → Prop} (X : CallFix p m c cX3_putRemark 2 s args wsX3_putRemark RX3) (hret : zQv p l e ({ frames := 3, cells := kc, slots := kt, locals := 104 } : Room) s m args below meth c Q cX3_putRemark D y A0 Pw) {x0 : Nat} {x1 : Nat} {S : ZS} {C T : Nat} {H : Heap} {locs : List Loc} {ls : Array Slot} (hf : g_X3_putRemark_0 Pw x0 x1 S C T) (hCT : C ≤ kc ∧ T ≤ kt) (hM : zH D y A0 s H locs S) (hl : lv_has ls 2 [(0, .ref (zh y x0)), (1, .ref (zh y x1))]) : W p l e ({ frames := 3, cells := kc, slots := kt, locals := 104 } : Room) s m args below meth c H locs (kc - C) (kt - T) Q (F0 m 0 ls []) := by
  obtain ⟨hx, hb, hml, hown, hts⟩ := id X
  unfold g_X3_putRemark_0 at hf
  refine lv_aload_n hx hb dX3_putRemark_0 rfl (lv_at hl 0 rfl) ?_
  obtain ⟨ca, hf⟩ := m_chkPE hf
  replace ca := z_in hM (by decide) ca
  refine z_get (k := 4) (j := 6) (C := RX4) (T := TX4) (N := 7) (fl := zf_4) (v := va_rf ((zP S 6 x0).map (zh y))) X hw_X3_putRemark_4 hM rfl zc_4 ca (by decide) fl_X3_putRemark_4_6 rfl dX3_putRemark_1 ?_
  clear ca
  obtain ⟨b1, hb9, hf⟩ := m_calPE hf
  refine z_topr hb9 ?_
  clear hb9
  obtain ⟨ca, hf⟩ := m_chkPE hf
  replace ca := z_in hM (by decide) ca
  obtain ⟨o2, ho, hf⟩ := m_calPE hf
  refine z_gcallVi (k := 6) (C := RX6) (T := TX6) (N := 2) (fl := zf_6) X hM rfl zc_6 ca (c_X6_size ho) gX3_putRemark_X6_size rfl ⟨rfl, rfl⟩ hd_X6_size ⟨Nat.le_of_ble_eq_true rfl, Nat.le_of_ble_eq_true rfl⟩ rfl hl.1 rfl ⟨Nat.sub_le _ _, Nat.sub_le _ _⟩ (Nat.le_of_ble_eq_true rfl) dX3_putRemark_4 (fun H locs hM => ?_)
  clear ho
  refine lv_if_ne (tgt := 11) hx hb dX3_putRemark_7 (by decide) (fun cc1 => ?_) (fun cc1 => ?_)
  · replace hf := m_ifPF hf cc1
    refine lv_aload_n hx hb dX3_putRemark_11 rfl (lv_at hl 1 rfl) ?_
    obtain ⟨mc, ms, hcm, ho⟩ := m_galE hf
    refine z_wcallSv X hM (c_X3_putGap ho) gX3_putRemark_X3_putGap rfl ⟨rfl, rfl⟩ ⟨by show kc - (C) + mc ≤ kc; omega, by show kt - (T) + ms ≤ kt; omega⟩ hd_X3_putGap ⟨Nat.le_of_ble_eq_true rfl, Nat.le_of_ble_eq_true rfl⟩ rfl hl.1 rfl (Nat.le_of_ble_eq_true rfl) dX3_putRemark_12 (fun S5 H locs hf hM => ?_)
    refine z_eqCS (c2 := kc - (C - mc)) (t2 := kt - (T - ms)) (by omega) (by omega) ?_
    replace hCT : C - mc ≤ kc ∧ T - ms ≤ kt := by omega
    generalize C - mc = C6 at hf hCT ⊢
    generalize T - ms = T7 at hf hCT ⊢
    clear ho hcm
    refine lv_aload_n hx hb dX3_putRemark_15 rfl (lv_at hl 1 rfl) ?_
    refine lv_bipush (v := (123 : Int32)) hx hb dX3_putRemark_16 (by decide) ?_
    obtain ⟨ca, hf⟩ := m_chkPE hf
    replace ca := z_in hM (by decide) ca
    obtain ⟨mc, ms, hcm, ho⟩ := m_galE hf
    refine z_wcallVv (k := 6) (C := RX6) (T := TX6) (N := 2) (fl := zf_6) X hM rfl zc_6 ca (c_X6_put ho) gX3_putRemark_X6_put rfl ⟨rfl, rfl⟩ ⟨by show kc - (C6) + mc ≤ kc; omega, by show kt - (T7) + ms ≤ kt; omega⟩ hd_X6_put ⟨Nat.le_of_ble_eq_true rfl, Nat.le_of_ble_eq_true rfl⟩ rfl hl.1 rfl (Nat.le_of_ble_eq_true rfl) dX3_putRemark_18 (fun S10 H locs hf hM => ?_)
    refine z_eqCS (c2 := kc - (C6 - mc)) (t2 := kt - (T7 - ms)) (by omega) (by omega) ?_
    replace hCT : C6 - mc ≤ kc ∧ T7 - ms ≤ kt := by omega
    generalize C6 - mc = C11 at hf hCT ⊢
    generalize T7 - ms = T12 at hf hCT ⊢
    clear ho hcm
    refine lv_aload_n hx hb dX3_putRemark_21 rfl (lv_at hl 1 rfl) ?_
    refine lv_aload_n hx hb dX3_putRemark_22 rfl (lv_at hl 0 rfl) ?_
    obtain ⟨ca, hf⟩ := m_chkPE hf
    replace ca := z_in hM (by decide) ca
    refine z_get (k := 4) (j := 6) (C := RX4) (T := TX4) (N := 7) (fl := zf_4) (v := va_rf ((zP S10 6 x0).map (zh y))) X hw_X3_putRemark_4 hM rfl zc_4 ca (by decide) fl_X3_putRemark_4_6 rfl dX3_putRemark_23 ?_
    clear ca
    obtain ⟨b13, hb9, hf⟩ := m_calPE hf
    refine z_topr hb9 ?_
    clear hb9
    obtain ⟨ca, hf⟩ := m_chkPE hf
    replace ca := z_in hM (by decide) ca
    obtain ⟨mc, ms, hcm, ho⟩ := m_galE hf
    refine z_wcallVv (k := 6) (C := RX6) (T := TX6) (N := 2) (fl := zf_6) X hM rfl zc_6 ca (c_X6_putAll ho) gX3_putRemark_X6_putAll rfl ⟨rfl, rfl⟩ ⟨by show kc - (C11) + mc ≤ kc; omega, by show kt - (T12) + ms ≤ kt; omega⟩ hd_X6_putAll ⟨Nat.le_of_ble_eq_true rfl, Nat.le_of_ble_eq_true rfl⟩ rfl hl.1 rfl (Nat.le_of_ble_eq_true rfl) dX3_putRemark_26 (fun S16 H locs hf hM => ?_)
    refine z_eqCS (c2 := kc - (C11 - mc)) (t2 := kt - (T12 - ms)) (by omega) (by omega) ?_
    replace hCT : C11 - mc ≤ kc ∧ T12 - ms ≤ kt := by omega
    generalize C11 - mc = C17 at hf hCT ⊢
    generalize T12 - ms = T18 at hf hCT ⊢
    clear ho hcm
    refine lv_aload_n hx hb dX3_putRemark_29 rfl (lv_at hl 1 rfl) ?_
    refine lv_bipush (v := (125 : Int32)) hx hb dX3_putRemark_30 (by decide) ?_
    obtain ⟨ca, hf⟩ := m_chkPE hf
    replace ca := z_in hM (by decide) ca
    obtain ⟨mc, ms, hcm, ho⟩ := m_galE hf
    refine z_wcallVv (k := 6) (C := RX6) (T := TX6) (N := 2) (fl := zf_6) X hM rfl zc_6 ca (c_X6_put ho) gX3_putRemark_X6_put rfl ⟨rfl, rfl⟩ ⟨by show kc - (C17) + mc ≤ kc; omega, by show kt - (T18) + ms ≤ kt; omega⟩ hd_X6_put ⟨Nat.le_of_ble_eq_true rfl, Nat.le_of_ble_eq_true rfl⟩ rfl hl.1 rfl (Nat.le_of_ble_eq_true rfl) dX3_putRemark_32 (fun S21 H locs hf hM => ?_)
    refine z_eqCS (c2 := kc - (C17 - mc)) (t2 := kt - (T18 - ms)) (by omega) (by omega) ?_
    replace hCT : C17 - mc ≤ kc ∧ T18 - ms ≤ kt := by omega
    generalize C17 - mc = C22 at hf hCT ⊢
    generalize T18 - ms = T23 at hf hCT ⊢
    clear ho hcm
    exact hret _ _ _ H locs _ ls hf hM dX3_putRemark_35
  · replace hf := m_ifPT hf cc1
    exact hret _ _ _ H locs _ ls hf hM dX3_putRemark_10
noncomputable def g_X3_putRemark (x0 : Nat) (x1 : Nat) (S : ZS) (mc ms : Nat) (Pw : Int32 → ZS → Prop) : Prop := g_X3_putRemark_0 Pw x0 x1 S mc ms
theorem c_X3_putRemark {l : Launch} {D : va_G} {y : Nat → ClassId} {x0 : Nat} {x1 : Nat} {S : ZS} {kc kt : Nat} {Pw : Int32 → ZS → Prop} (hf : g_X3_putRemark x0 x1 S kc kt Pw) : zWv l yX3_putRemark wsX3_putRemark ({ frames := 3, cells := kc, slots := kt, locals := 104 } : Room) [.ref (zh y x0), .ref (zh y x1)] D y S kc kt Pw :=
  z_wentV (own := RX3) (cc := cX3_putRemark) (maxL := 2) (by decide) rfl rfl (Nat.le_of_ble_eq_true rfl) ⟨rfl, rfl⟩ (fun p e s m args below meth c A0 Q H locs ls X hret hM hl => w_X3_putRemark_0 X hret hf ⟨Nat.le_refl _, Nat.le_refl _⟩ hM (lv_sub hl [0, 1] rfl))
theorem hd_X3_putHead : yX3_putHead.cls = RX3 ∧ yX3_putHead.cls ≠ "java/lang/invoke/MethodHandle" ∧ yX3_putHead.cls ≠ "java/lang/invoke/VarHandle" ∧ (parseMethodDescriptor yX3_putHead.desc).map (fun d => d.parameters.length) = some 2 := by decide +kernel
theorem fl_X3_putHead_10_0 : Cond.fieldLink RX3 41 "MoveTexts$Tag" "name" "LMoveTexts$Row;" ∈ wsX3_putHead := by decide +kernel
theorem fl_X3_putHead_10_1 : Cond.fieldLink RX3 57 "MoveTexts$Tag" "value" "LMoveTexts$Row;" ∈ wsX3_putHead := by decide +kernel
theorem fl_X3_putHead_1_0 : Cond.fieldLink RX3 74 "MoveTexts$Game" "start" "LMoveTexts$Board;" ∈ wsX3_putHead := by decide +kernel
theorem fl_X3_putHead_1_5 : Cond.fieldLink RX3 25 "MoveTexts$Game" "tagCount" "I" ∈ wsX3_putHead := by decide +kernel
theorem fl_X3_putHead_3_1 : Cond.fieldLink RX3 20 "MoveTexts$GameWriter" "boards" "[LMoveTexts$Board;" ∈ wsX3_putHead := by decide +kernel
theorem hw_X3_putHead_1 : ∀ w ∈ wsX10, w ∈ wsX3_putHead := by decide +kernel
theorem hw_X3_putHead_10 : ∀ w ∈ wsX100, w ∈ wsX3_putHead := by decide +kernel
theorem hw_X3_putHead_3 : ∀ w ∈ wsX30, w ∈ wsX3_putHead := by decide +kernel
theorem sr_X3_putHead_51 : (RX3, 51, " \"", 11) ∈ zSR := by decide +kernel
theorem sr_X3_putHead_64 : (RX3, 64, "\"]\n", 12) ∈ zSR := by decide +kernel
noncomputable def g_X3_putHead_72 (Pw : Int32 → ZS → Prop) (x0 : Nat) (x1 : Nat) (x2 : Nat) (S : ZS) (C T : Nat) : Prop :=
  m_chkQ (zK S x1 = 1) (
  m_calP (f_X1_at x1 (0 : Int32) S) (fun o1 =>
  m_gal (C) (T) (fun mc ms Pw => g_X3_putRemark o1.1 x2 o1.2 mc ms Pw) (fun r3 S4 C5 T6 =>
  m_chkQ (zK S4 x0 = 3) (
  m_calP (zP S4 1 x0) (fun b7 =>
  m_chkQ (zK S4 b7 = 15) (
  m_chkQ (¬ ((0 : Int32) < 0 ∨ zN S4 b7 ≤ ((0 : Int32)).toNatClampNeg)) (
  m_calP (zB S4 b7 ((0 : Int32)).toNatClampNeg) (fun b8 =>
  m_chkQ (zK S4 x1 = 1) (
  m_calP (zP S4 0 x1) (fun b9 =>
  m_chkQ (zK S4 b8 = 0) (
  m_calP (f_X0_copyFrom b8 b9 S4) (fun o10 =>
  Pw 0 o10.2))))))))))))

set_option maxRecDepth 100000 in
set_option maxHeartbeats 4000000 in
theorem w_X3_putHead_72 {p : Program} {l : Launch} {e : Env} {s : State} {m : MethodId} {args : Array Value} {below : List Frame} {meth : Method} {c : Code} {Q : State → Prop} {D : va_G} {y : Nat → ClassId} {A0 : Nat → Prop} {kc kt : Nat} {Pw : Int32 → ZS → Prop} (X : CallFix p m c cX3_putHead 5 s args wsX3_putHead RX3) (hret : zQv p l e ({ frames := 5, cells := kc, slots := kt, locals := 125 } : Room) s m args below meth c Q cX3_putHead D y A0 Pw) {x0 : Nat} {x1 : Nat} {x2 : Nat} {S : ZS} {C T : Nat} {H : Heap} {locs : List Loc} {ls : Array Slot} (hf : g_X3_putHead_72 Pw x0 x1 x2 S C T) (hCT : C ≤ kc ∧ T ≤ kt) (hM : zH D y A0 s H locs S) (hl : lv_has ls 5 [(0, .ref (zh y x0)), (1, .ref (zh y x1)), (2, .ref (zh y x2))]) : W p l e ({ frames := 5, cells := kc, slots := kt, locals := 125 } : Room) s m args below meth c H locs (kc - C) (kt - T) Q (F0 m 72 ls []) := by
  obtain ⟨hx, hb, hml, hown, hts⟩ := id X
  unfold g_X3_putHead_72 at hf
  refine lv_aload_n hx hb dX3_putHead_72 rfl (lv_at hl 1 rfl) ?_
  refine lv_iconst (v := (0 : Int32)) hx hb dX3_putHead_73 (by decide) ?_
  obtain ⟨ca, hf⟩ := m_chkPE hf
  replace ca := z_in hM (by decide) ca
  obtain ⟨o1, ho, hf⟩ := m_calPE hf
  refine z_gcallVr (k := 1) (C := RX1) (T := TX1) (N := 8) (fl := zf_1) X hM rfl zc_1 ca (c_X1_at ho) gX3_putHead_X1_at rfl ⟨rfl, rfl⟩ hd_X1_at ⟨Nat.le_of_ble_eq_true rfl, Nat.le_of_ble_eq_true rfl⟩ rfl hl.1 rfl ⟨Nat.sub_le _ _, Nat.sub_le _ _⟩ (Nat.le_of_ble_eq_true rfl) dX3_putHead_74 (fun H locs hM => ?_)
  clear ho
  refine lv_aload_n hx hb dX3_putHead_77 rfl (lv_at hl 2 rfl) ?_
  obtain ⟨mc, ms, hcm, ho⟩ := m_galE hf
  refine z_wcallSv X hM (c_X3_putRemark ho) gX3_putHead_X3_putRemark rfl ⟨rfl, rfl⟩ ⟨by show kc - (C) + mc ≤ kc; omega, by show kt - (T) + ms ≤ kt; omega⟩ hd_X3_putRemark ⟨Nat.le_of_ble_eq_true rfl, Nat.le_of_ble_eq_true rfl⟩ rfl hl.1 rfl (Nat.le_of_ble_eq_true rfl) dX3_putHead_78 (fun S4 H locs hf hM => ?_)
  refine z_eqCS (c2 := kc - (C - mc)) (t2 := kt - (T - ms)) (by omega) (by omega) ?_
  replace hCT : C - mc ≤ kc ∧ T - ms ≤ kt := by omega
  generalize C - mc = C5 at hf hCT ⊢
  generalize T - ms = T6 at hf hCT ⊢
  clear ho hcm
  refine lv_aload_n hx hb dX3_putHead_81 rfl (lv_at hl 0 rfl) ?_
  obtain ⟨ca, hf⟩ := m_chkPE hf
  replace ca := z_in hM (by decide) ca
  refine z_get (k := 3) (j := 1) (C := RX3) (T := TX3) (N := 2) (fl := zf_3) (v := va_rf ((zP S4 1 x0).map (zh y))) X hw_X3_putHead_3 hM rfl zc_3 ca (by decide) fl_X3_putHead_3_1 rfl dX3_putHead_82 ?_
  clear ca
  obtain ⟨b7, hb9, hf⟩ := m_calPE hf
  refine z_topr hb9 ?_
  clear hb9
  refine lv_iconst (v := (0 : Int32)) hx hb dX3_putHead_85 (by decide) ?_
  obtain ⟨ca, hf⟩ := m_chkPE hf
  replace ca := z_in hM (by decide) ca
  obtain ⟨cd, hf⟩ := m_chkPE hf
  refine z_aald (k := 15) (t0 := 2) (C := "MoveTexts$Board") X hM (fun _ _ _ _ _ => rfl) rfl ca cd dX3_putHead_86 ?_
  clear ca cd
  obtain ⟨b8, hb9, hf⟩ := m_calPE hf
  refine z_topr hb9 ?_
  clear hb9
  refine lv_aload_n hx hb dX3_putHead_87 rfl (lv_at hl 1 rfl) ?_
  obtain ⟨ca, hf⟩ := m_chkPE hf
  replace ca := z_in hM (by decide) ca
  refine z_get (k := 1) (j := 0) (C := RX1) (T := TX1) (N := 8) (fl := zf_1) (v := va_rf ((zP S4 0 x1).map (zh y))) X hw_X3_putHead_1 hM rfl zc_1 ca (by decide) fl_X3_putHead_1_0 rfl dX3_putHead_88 ?_
  clear ca
  obtain ⟨b9, hb9, hf⟩ := m_calPE hf
  refine z_topr hb9 ?_
  clear hb9
  obtain ⟨ca, hf⟩ := m_chkPE hf
  replace ca := z_in hM (by decide) ca
  obtain ⟨o10, ho, hf⟩ := m_calPE hf
  refine z_gcallVv (k := 0) (C := RX0) (T := TX0) (N := 7) (fl := zf_0) X hM rfl zc_0 ca (c_X0_copyFrom ho) gX3_putHead_X0_copyFrom rfl ⟨rfl, rfl⟩ hd_X0_copyFrom ⟨Nat.le_of_ble_eq_true rfl, Nat.le_of_ble_eq_true rfl⟩ rfl hl.1 rfl ⟨Nat.sub_le _ _, Nat.sub_le _ _⟩ (Nat.le_of_ble_eq_true rfl) dX3_putHead_91 (fun H locs hM => ?_)
  clear ho
  exact hret _ _ _ H locs _ ls hf hM dX3_putHead_94
noncomputable def g_X3_putHead_2s (Pw : Int32 → ZS → Prop) (self2 : Nat → Nat → Nat → Int32 → ZS → Nat → Nat → Prop) (x0 : Nat) (x1 : Nat) (x2 : Nat) (x3 : Int32) (S : ZS) (C T : Nat) : Prop :=
  m_chkQ (zK S x1 = 1) (
  m_ifQ ((zI S 5 x1) ≤ x3) (
  m_chkQ (zK S x1 = 1) (
  m_ifQ ((zI S 5 x1) ≤ 0) (
  g_X3_putHead_72 Pw x0 x1 x2 S (C) (T)
  ) (
  m_chkQ (zK S x2 = 6) (
  m_gal (C) (T) (fun mc ms Pw => g_X6_put x2 (10 : Int32) S mc ms Pw) (fun r2 S3 C4 T5 =>
  g_X3_putHead_72 Pw x0 x1 x2 S3 (C4) (T5)))
  ))
  ) (
  m_chkQ (zK S x1 = 1) (
  m_galN (C) (T) (fun mc ms Pw => g_X1_tagAt x1 x3 S mc ms Pw) (fun r7 S8 C9 T10 =>
  m_chkQ (zK S8 x2 = 6) (
  m_gal (C9) (T10) (fun mc ms Pw => g_X6_put x2 (91 : Int32) S8 mc ms Pw) (fun r12 S13 C14 T15 =>
  m_chkQ (zK S13 r7 = 10) (
  m_calP (zP S13 0 r7) (fun b16 =>
  m_chkQ (zK S13 x2 = 6) (
  m_gal (C14) (T15) (fun mc ms Pw => g_X6_putAll x2 b16 S13 mc ms Pw) (fun r18 S19 C20 T21 =>
  m_chkQ (zK S19 x2 = 6) (
  m_gal (C20) (T21) (fun mc ms Pw => g_X6_putText x2 11 S19 mc ms Pw) (fun r23 S24 C25 T26 =>
  m_chkQ (zK S24 r7 = 10) (
  m_calP (zP S24 1 r7) (fun b27 =>
  m_gal (C25) (T26) (fun mc ms Pw => g_X3_putQuoted b27 x2 S24 mc ms Pw) (fun r29 S30 C31 T32 =>
  m_chkQ (zK S30 x2 = 6) (
  m_gal (C31) (T32) (fun mc ms Pw => g_X6_putText x2 12 S30 mc ms Pw) (fun r34 S35 C36 T37 =>
  m_bndP (x3 + (1 : Int32)) (fun v38 =>
  self2 x0 x1 x2 v38 S35 (C36) (T37)))))))))))))))))
  ))

set_option maxRecDepth 100000 in
set_option maxHeartbeats 4000000 in
theorem ws_X3_putHead_2 {p : Program} {l : Launch} {e : Env} {s : State} {m : MethodId} {args : Array Value} {below : List Frame} {meth : Method} {c : Code} {Q : State → Prop} {D : va_G} {y : Nat → ClassId} {A0 : Nat → Prop} {kc kt : Nat} {Pw : Int32 → ZS → Prop} (X : CallFix p m c cX3_putHead 5 s args wsX3_putHead RX3) (hret : zQv p l e ({ frames := 5, cells := kc, slots := kt, locals := 125 } : Room) s m args below meth c Q cX3_putHead D y A0 Pw) {self2 : Nat → Nat → Nat → Int32 → ZS → Nat → Nat → Prop} (hself2 : ∀ (x0 : Nat) (x1 : Nat) (x2 : Nat) (x3 : Int32) (S : ZS) (C T : Nat) (H : Heap) (locs : List Loc) (ls : Array Slot), self2 x0 x1 x2 x3 S C T → C ≤ kc ∧ T ≤ kt → zH D y A0 s H locs S → lv_has ls 5 [(0, .ref (zh y x0)), (1, .ref (zh y x1)), (2, .ref (zh y x2)), (3, .int x3)] → W p l e ({ frames := 5, cells := kc, slots := kt, locals := 125 } : Room) s m args below meth c H locs (kc - C) (kt - T) Q (F0 m 2 ls [])) {x0 : Nat} {x1 : Nat} {x2 : Nat} {x3 : Int32} {S : ZS} {C T : Nat} {H : Heap} {locs : List Loc} {ls : Array Slot} (hf : g_X3_putHead_2s Pw self2 x0 x1 x2 x3 S C T) (hCT : C ≤ kc ∧ T ≤ kt) (hM : zH D y A0 s H locs S) (hl : lv_has ls 5 [(0, .ref (zh y x0)), (1, .ref (zh y x1)), (2, .ref (zh y x2)), (3, .int x3)]) : W p l e ({ frames := 5, cells := kc, slots := kt, locals := 125 } : Room) s m args below meth c H locs (kc - C) (kt - T) Q (F0 m 2 ls []) := by
  obtain ⟨hx, hb, hml, hown, hts⟩ := id X
  unfold g_X3_putHead_2s at hf
  refine lv_iload_n hx hb dX3_putHead_2 rfl (lv_at hl 3 rfl) ?_
  refine lv_aload_n hx hb dX3_putHead_3 rfl (lv_at hl 1 rfl) ?_
  obtain ⟨ca, hf⟩ := m_chkPE hf
  replace ca := z_in hM (by decide) ca
  refine z_get (k := 1) (j := 5) (C := RX1) (T := TX1) (N := 8) (fl := zf_1) (v := .int (zI S 5 x1)) X hw_X3_putHead_1 hM rfl zc_1 ca (by decide) fl_X3_putHead_1_5 rfl dX3_putHead_4 ?_
  clear ca
  refine lv_icmp_ge (tgt := 59) hx hb dX3_putHead_7 (by decide) (fun cc1 => ?_) (fun cc1 => ?_)
  · replace hf := m_ifPT hf cc1
    refine lv_aload_n hx hb dX3_putHead_59 rfl (lv_at hl 1 rfl) ?_
    obtain ⟨ca, hf⟩ := m_chkPE hf
    replace ca := z_in hM (by decide) ca
    refine z_get (k := 1) (j := 5) (C := RX1) (T := TX1) (N := 8) (fl := zf_1) (v := .int (zI S 5 x1)) X hw_X3_putHead_1 hM rfl zc_1 ca (by decide) fl_X3_putHead_1_5 rfl dX3_putHead_60 ?_
    clear ca
    refine lv_if_le (tgt := 72) hx hb dX3_putHead_63 (by decide) (fun cc1 => ?_) (fun cc1 => ?_)
    · replace hf := m_ifPT hf cc1
      exact w_X3_putHead_72 (x0 := x0) (x1 := x1) (x2 := x2) X hret hf hCT hM (lv_sub hl [0, 1, 2] rfl)
    · replace hf := m_ifPF hf cc1
      refine lv_aload_n hx hb dX3_putHead_66 rfl (lv_at hl 2 rfl) ?_
      refine lv_bipush (v := (10 : Int32)) hx hb dX3_putHead_67 (by decide) ?_
      obtain ⟨ca, hf⟩ := m_chkPE hf
      replace ca := z_in hM (by decide) ca
      obtain ⟨mc, ms, hcm, ho⟩ := m_galE hf
      refine z_wcallVv (k := 6) (C := RX6) (T := TX6) (N := 2) (fl := zf_6) X hM rfl zc_6 ca (c_X6_put ho) gX3_putHead_X6_put rfl ⟨rfl, rfl⟩ ⟨by show kc - (C) + mc ≤ kc; omega, by show kt - (T) + ms ≤ kt; omega⟩ hd_X6_put ⟨Nat.le_of_ble_eq_true rfl, Nat.le_of_ble_eq_true rfl⟩ rfl hl.1 rfl (Nat.le_of_ble_eq_true rfl) dX3_putHead_69 (fun S3 H locs hf hM => ?_)
      refine z_eqCS (c2 := kc - (C - mc)) (t2 := kt - (T - ms)) (by omega) (by omega) ?_
      replace hCT : C - mc ≤ kc ∧ T - ms ≤ kt := by omega
      generalize C - mc = C4 at hf hCT ⊢
      generalize T - ms = T5 at hf hCT ⊢
      clear ho hcm
      exact w_X3_putHead_72 (x0 := x0) (x1 := x1) (x2 := x2) X hret hf hCT hM (lv_sub hl [0, 1, 2] rfl)
  · replace hf := m_ifPF hf cc1
    refine lv_aload_n hx hb dX3_putHead_10 rfl (lv_at hl 1 rfl) ?_
    refine lv_iload_n hx hb dX3_putHead_11 rfl (lv_at hl 3 rfl) ?_
    obtain ⟨ca, hf⟩ := m_chkPE hf
    replace ca := z_in hM (by decide) ca
    obtain ⟨mc, ms, hcm, ho⟩ := m_galNE hf
    refine z_wcallVr (k := 1) (C := RX1) (T := TX1) (N := 8) (fl := zf_1) X hM rfl zc_1 ca (c_X1_tagAt ho) gX3_putHead_X1_tagAt rfl ⟨rfl, rfl⟩ ⟨by show kc - (C) + mc ≤ kc; omega, by show kt - (T) + ms ≤ kt; omega⟩ hd_X1_tagAt ⟨Nat.le_of_ble_eq_true rfl, Nat.le_of_ble_eq_true rfl⟩ rfl hl.1 rfl (Nat.le_of_ble_eq_true rfl) dX3_putHead_12 (fun r7 S8 H locs hf hM => ?_)
    refine z_eqCS (c2 := kc - (C - mc)) (t2 := kt - (T - ms)) (by omega) (by omega) ?_
    replace hCT : C - mc ≤ kc ∧ T - ms ≤ kt := by omega
    generalize C - mc = C9 at hf hCT ⊢
    generalize T - ms = T10 at hf hCT ⊢
    clear ho hcm
    refine lv_astore (lv' := [(4, .ref (zh y r7)), (0, .ref (zh y x0)), (1, .ref (zh y x1)), (2, .ref (zh y x2)), (3, .int x3)]) hx hb dX3_putHead_15 hl (by decide) rfl (fun ls hl => ?_)
    refine lv_aload_n hx hb dX3_putHead_17 rfl (lv_at hl 3 rfl) ?_
    refine lv_bipush (v := (91 : Int32)) hx hb dX3_putHead_18 (by decide) ?_
    obtain ⟨ca, hf⟩ := m_chkPE hf
    replace ca := z_in hM (by decide) ca
    obtain ⟨mc, ms, hcm, ho⟩ := m_galE hf
    refine z_wcallVv (k := 6) (C := RX6) (T := TX6) (N := 2) (fl := zf_6) X hM rfl zc_6 ca (c_X6_put ho) gX3_putHead_X6_put rfl ⟨rfl, rfl⟩ ⟨by show kc - (C9) + mc ≤ kc; omega, by show kt - (T10) + ms ≤ kt; omega⟩ hd_X6_put ⟨Nat.le_of_ble_eq_true rfl, Nat.le_of_ble_eq_true rfl⟩ rfl hl.1 rfl (Nat.le_of_ble_eq_true rfl) dX3_putHead_20 (fun S13 H locs hf hM => ?_)
    refine z_eqCS (c2 := kc - (C9 - mc)) (t2 := kt - (T10 - ms)) (by omega) (by omega) ?_
    replace hCT : C9 - mc ≤ kc ∧ T10 - ms ≤ kt := by omega
    generalize C9 - mc = C14 at hf hCT ⊢
    generalize T10 - ms = T15 at hf hCT ⊢
    clear ho hcm
    refine lv_aload_n hx hb dX3_putHead_23 rfl (lv_at hl 3 rfl) ?_
    refine lv_aload hx hb dX3_putHead_24 (lv_at hl 0 rfl) ?_
    obtain ⟨ca, hf⟩ := m_chkPE hf
    replace ca := z_in hM (by decide) ca
    refine z_get (k := 10) (j := 0) (C := RX10) (T := TX10) (N := 2) (fl := zf_10) (v := va_rf ((zP S13 0 r7).map (zh y))) X hw_X3_putHead_10 hM rfl zc_10 ca (by decide) fl_X3_putHead_10_0 rfl dX3_putHead_26 ?_
    clear ca
    obtain ⟨b16, hb9, hf⟩ := m_calPE hf
    refine z_topr hb9 ?_
    clear hb9
    obtain ⟨ca, hf⟩ := m_chkPE hf
    replace ca := z_in hM (by decide) ca
    obtain ⟨mc, ms, hcm, ho⟩ := m_galE hf
    refine z_wcallVv (k := 6) (C := RX6) (T := TX6) (N := 2) (fl := zf_6) X hM rfl zc_6 ca (c_X6_putAll ho) gX3_putHead_X6_putAll rfl ⟨rfl, rfl⟩ ⟨by show kc - (C14) + mc ≤ kc; omega, by show kt - (T15) + ms ≤ kt; omega⟩ hd_X6_putAll ⟨Nat.le_of_ble_eq_true rfl, Nat.le_of_ble_eq_true rfl⟩ rfl hl.1 rfl (Nat.le_of_ble_eq_true rfl) dX3_putHead_29 (fun S19 H locs hf hM => ?_)
    refine z_eqCS (c2 := kc - (C14 - mc)) (t2 := kt - (T15 - ms)) (by omega) (by omega) ?_
    replace hCT : C14 - mc ≤ kc ∧ T15 - ms ≤ kt := by omega
    generalize C14 - mc = C20 at hf hCT ⊢
    generalize T15 - ms = T21 at hf hCT ⊢
    clear ho hcm
    refine lv_aload_n hx hb dX3_putHead_32 rfl (lv_at hl 3 rfl) ?_
    refine z_ldcS X hM sr_X3_putHead_51 dX3_putHead_33 ?_
    obtain ⟨ca, hf⟩ := m_chkPE hf
    replace ca := z_in hM (by decide) ca
    obtain ⟨mc, ms, hcm, ho⟩ := m_galE hf
    refine z_wcallVv (k := 6) (C := RX6) (T := TX6) (N := 2) (fl := zf_6) X hM rfl zc_6 ca (c_X6_putText ho) gX3_putHead_X6_putText rfl ⟨rfl, rfl⟩ ⟨by show kc - (C20) + mc ≤ kc; omega, by show kt - (T21) + ms ≤ kt; omega⟩ hd_X6_putText ⟨Nat.le_of_ble_eq_true rfl, Nat.le_of_ble_eq_true rfl⟩ rfl hl.1 rfl (Nat.le_of_ble_eq_true rfl) dX3_putHead_35 (fun S24 H locs hf hM => ?_)
    refine z_eqCS (c2 := kc - (C20 - mc)) (t2 := kt - (T21 - ms)) (by omega) (by omega) ?_
    replace hCT : C20 - mc ≤ kc ∧ T21 - ms ≤ kt := by omega
    generalize C20 - mc = C25 at hf hCT ⊢
    generalize T21 - ms = T26 at hf hCT ⊢
    clear ho hcm
    refine lv_aload hx hb dX3_putHead_38 (lv_at hl 0 rfl) ?_
    obtain ⟨ca, hf⟩ := m_chkPE hf
    replace ca := z_in hM (by decide) ca
    refine z_get (k := 10) (j := 1) (C := RX10) (T := TX10) (N := 2) (fl := zf_10) (v := va_rf ((zP S24 1 r7).map (zh y))) X hw_X3_putHead_10 hM rfl zc_10 ca (by decide) fl_X3_putHead_10_1 rfl dX3_putHead_40 ?_
    clear ca
    obtain ⟨b27, hb9, hf⟩ := m_calPE hf
    refine z_topr hb9 ?_
    clear hb9
    refine lv_aload_n hx hb dX3_putHead_43 rfl (lv_at hl 3 rfl) ?_
    obtain ⟨mc, ms, hcm, ho⟩ := m_galE hf
    refine z_wcallSv X hM (c_X3_putQuoted ho) gX3_putHead_X3_putQuoted rfl ⟨rfl, rfl⟩ ⟨by show kc - (C25) + mc ≤ kc; omega, by show kt - (T26) + ms ≤ kt; omega⟩ hd_X3_putQuoted ⟨Nat.le_of_ble_eq_true rfl, Nat.le_of_ble_eq_true rfl⟩ rfl hl.1 rfl (Nat.le_of_ble_eq_true rfl) dX3_putHead_44 (fun S30 H locs hf hM => ?_)
    refine z_eqCS (c2 := kc - (C25 - mc)) (t2 := kt - (T26 - ms)) (by omega) (by omega) ?_
    replace hCT : C25 - mc ≤ kc ∧ T26 - ms ≤ kt := by omega
    generalize C25 - mc = C31 at hf hCT ⊢
    generalize T26 - ms = T32 at hf hCT ⊢
    clear ho hcm
    refine lv_aload_n hx hb dX3_putHead_47 rfl (lv_at hl 3 rfl) ?_
    refine z_ldcS X hM sr_X3_putHead_64 dX3_putHead_48 ?_
    obtain ⟨ca, hf⟩ := m_chkPE hf
    replace ca := z_in hM (by decide) ca
    obtain ⟨mc, ms, hcm, ho⟩ := m_galE hf
    refine z_wcallVv (k := 6) (C := RX6) (T := TX6) (N := 2) (fl := zf_6) X hM rfl zc_6 ca (c_X6_putText ho) gX3_putHead_X6_putText rfl ⟨rfl, rfl⟩ ⟨by show kc - (C31) + mc ≤ kc; omega, by show kt - (T32) + ms ≤ kt; omega⟩ hd_X6_putText ⟨Nat.le_of_ble_eq_true rfl, Nat.le_of_ble_eq_true rfl⟩ rfl hl.1 rfl (Nat.le_of_ble_eq_true rfl) dX3_putHead_50 (fun S35 H locs hf hM => ?_)
    refine z_eqCS (c2 := kc - (C31 - mc)) (t2 := kt - (T32 - ms)) (by omega) (by omega) ?_
    replace hCT : C31 - mc ≤ kc ∧ T32 - ms ≤ kt := by omega
    generalize C31 - mc = C36 at hf hCT ⊢
    generalize T32 - ms = T37 at hf hCT ⊢
    clear ho hcm
    obtain ⟨v38, ev, hf⟩ := m_bndPE hf
    refine lv_iinc (v := v38) (lv' := [(3, .int v38), (4, .ref (zh y r7)), (0, .ref (zh y x0)), (1, .ref (zh y x1)), (2, .ref (zh y x2))]) hx hb dX3_putHead_53 hl (k := 4) rfl (by rw [ev]; rfl) (by decide) rfl (fun ls hl => ?_)
    clear ev
    refine lv_goto (tgt := 2) hx hb dX3_putHead_56 (by decide) ?_
    exact hself2 x0 x1 x2 v38 _ _ _ _ _ _ hf hCT hM (lv_sub hl [2, 3, 4, 0] rfl)
noncomputable def g_X3_putHead_2 (Pw : Int32 → ZS → Prop) : Nat → Nat → Nat → Nat → Int32 → ZS → Nat → Nat → Prop
  | 0 => fun _ _ _ _ _ _ _ => False
  | n + 1 => g_X3_putHead_2s Pw (g_X3_putHead_2 Pw n)
theorem w_X3_putHead_2 {p : Program} {l : Launch} {e : Env} {s : State} {m : MethodId} {args : Array Value} {below : List Frame} {meth : Method} {c : Code} {Q : State → Prop} {D : va_G} {y : Nat → ClassId} {A0 : Nat → Prop} {kc kt : Nat} {Pw : Int32 → ZS → Prop} (X : CallFix p m c cX3_putHead 5 s args wsX3_putHead RX3) (hret : zQv p l e ({ frames := 5, cells := kc, slots := kt, locals := 125 } : Room) s m args below meth c Q cX3_putHead D y A0 Pw) (n : Nat) : ∀ (x0 : Nat) (x1 : Nat) (x2 : Nat) (x3 : Int32) (S : ZS) (C T : Nat) (H : Heap) (locs : List Loc) (ls : Array Slot), g_X3_putHead_2 Pw n x0 x1 x2 x3 S C T → C ≤ kc ∧ T ≤ kt → zH D y A0 s H locs S → lv_has ls 5 [(0, .ref (zh y x0)), (1, .ref (zh y x1)), (2, .ref (zh y x2)), (3, .int x3)] → W p l e ({ frames := 5, cells := kc, slots := kt, locals := 125 } : Room) s m args below meth c H locs (kc - C) (kt - T) Q (F0 m 2 ls []) := by
  induction n with
  | zero => intro x0 x1 x2 x3 S C T H locs ls hf; exact absurd hf id
  | succ n ih => intro x0 x1 x2 x3 S C T H locs ls hf hCT hM hl; exact ws_X3_putHead_2 X hret (self2 := g_X3_putHead_2 Pw n) ih hf hCT hM hl
noncomputable def g_X3_putHead_0 (Pw : Int32 → ZS → Prop) (x0 : Nat) (x1 : Nat) (x2 : Nat) (S : ZS) (C T : Nat) : Prop :=
  g_X3_putHead_2 Pw mFuel x0 x1 x2 (0 : Int32) S (C) (T)

set_option maxRecDepth 100000 in
set_option maxHeartbeats 4000000 in
theorem w_X3_putHead_0 {p : Program} {l : Launch} {e : Env} {s : State} {m : MethodId} {args : Array Value} {below : List Frame} {meth : Method} {c : Code} {Q : State → Prop} {D : va_G} {y : Nat → ClassId} {A0 : Nat → Prop} {kc kt : Nat} {Pw : Int32 → ZS → Prop} (X : CallFix p m c cX3_putHead 5 s args wsX3_putHead RX3) (hret : zQv p l e ({ frames := 5, cells := kc, slots := kt, locals := 125 } : Room) s m args below meth c Q cX3_putHead D y A0 Pw) {x0 : Nat} {x1 : Nat} {x2 : Nat} {S : ZS} {C T : Nat} {H : Heap} {locs : List Loc} {ls : Array Slot} (hf : g_X3_putHead_0 Pw x0 x1 x2 S C T) (hCT : C ≤ kc ∧ T ≤ kt) (hM : zH D y A0 s H locs S) (hl : lv_has ls 5 [(0, .ref (zh y x0)), (1, .ref (zh y x1)), (2, .ref (zh y x2))]) : W p l e ({ frames := 5, cells := kc, slots := kt, locals := 125 } : Room) s m args below meth c H locs (kc - C) (kt - T) Q (F0 m 0 ls []) := by
  obtain ⟨hx, hb, hml, hown, hts⟩ := id X
  unfold g_X3_putHead_0 at hf
  refine lv_iconst (v := (0 : Int32)) hx hb dX3_putHead_0 (by decide) ?_
  refine lv_istore_n (lv' := [(3, .int (0 : Int32)), (0, .ref (zh y x0)), (1, .ref (zh y x1)), (2, .ref (zh y x2))]) hx hb dX3_putHead_1 rfl hl (by decide) rfl (fun ls hl => ?_)
  exact w_X3_putHead_2 X hret _ x0 x1 x2 (0 : Int32) _ _ _ _ _ _ hf hCT hM (lv_sub hl [1, 2, 3, 0] rfl)
noncomputable def g_X3_putHead (x0 : Nat) (x1 : Nat) (x2 : Nat) (S : ZS) (mc ms : Nat) (Pw : Int32 → ZS → Prop) : Prop := g_X3_putHead_0 Pw x0 x1 x2 S mc ms
theorem c_X3_putHead {l : Launch} {D : va_G} {y : Nat → ClassId} {x0 : Nat} {x1 : Nat} {x2 : Nat} {S : ZS} {kc kt : Nat} {Pw : Int32 → ZS → Prop} (hf : g_X3_putHead x0 x1 x2 S kc kt Pw) : zWv l yX3_putHead wsX3_putHead ({ frames := 5, cells := kc, slots := kt, locals := 125 } : Room) [.ref (zh y x0), .ref (zh y x1), .ref (zh y x2)] D y S kc kt Pw :=
  z_wentV (own := RX3) (cc := cX3_putHead) (maxL := 5) (by decide) rfl rfl (Nat.le_of_ble_eq_true rfl) ⟨rfl, rfl⟩ (fun p e s m args below meth c A0 Q H locs ls X hret hM hl => w_X3_putHead_0 X hret hf ⟨Nat.le_refl _, Nat.le_refl _⟩ hM (lv_sub hl [0, 1, 2] rfl))
theorem hd_X3_putEnd : yX3_putEnd.cls = RX3 ∧ yX3_putEnd.cls ≠ "java/lang/invoke/MethodHandle" ∧ yX3_putEnd.cls ≠ "java/lang/invoke/VarHandle" ∧ (parseMethodDescriptor yX3_putEnd.desc).map (fun d => d.parameters.length) = some 2 := by decide +kernel
theorem fl_X3_putEnd_1_6 : Cond.fieldLink RX3 92 "MoveTexts$Game" "result" "I" ∈ wsX3_putEnd := by decide +kernel
theorem hw_X3_putEnd_1 : ∀ w ∈ wsX10, w ∈ wsX3_putEnd := by decide +kernel
theorem nn_X3_putEnd_95 : ((RX3, 95, yX11_resultSign, "MoveTexts") ∈ zNW ∧ Cond.initialized yX11_resultSign.cls ∈ wsX3_putEnd) ∧ Cond.static yX11_resultSign ∈ wsX3_putEnd := by decide +kernel
noncomputable def g_X3_putEnd_0 (Pw : Int32 → ZS → Prop) (x1 : Nat) (x2 : Nat) (S : ZS) (C T : Nat) : Prop :=
  m_gal (C) (T) (fun mc ms Pw => g_X3_putGap x2 S mc ms Pw) (fun r2 S3 C4 T5 =>
  m_chkQ (zK S3 x1 = 1) (
  m_calP (f_X11_resultSign (zI S3 6 x1) S3) (fun o6 =>
  m_chkQ (zK o6.2 x2 = 6) (
  m_gal (C4) (T5) (fun mc ms Pw => g_X6_putText x2 o6.1 o6.2 mc ms Pw) (fun r8 S9 C10 T11 =>
  Pw 0 S9)))))

set_option maxRecDepth 100000 in
set_option maxHeartbeats 4000000 in
theorem w_X3_putEnd_0 {p : Program} {l : Launch} {e : Env} {s : State} {m : MethodId} {args : Array Value} {below : List Frame} {meth : Method} {c : Code} {Q : State → Prop} {D : va_G} {y : Nat → ClassId} {A0 : Nat → Prop} {kc kt : Nat} {Pw : Int32 → ZS → Prop} (X : CallFix p m c cX3_putEnd 3 s args wsX3_putEnd RX3) (hret : zQv p l e ({ frames := 5, cells := kc, slots := kt, locals := 107 } : Room) s m args below meth c Q cX3_putEnd D y A0 Pw) {x1 : Nat} {x2 : Nat} {S : ZS} {C T : Nat} {H : Heap} {locs : List Loc} {ls : Array Slot} (hf : g_X3_putEnd_0 Pw x1 x2 S C T) (hCT : C ≤ kc ∧ T ≤ kt) (hM : zH D y A0 s H locs S) (hl : lv_has ls 3 [(1, .ref (zh y x1)), (2, .ref (zh y x2))]) : W p l e ({ frames := 5, cells := kc, slots := kt, locals := 107 } : Room) s m args below meth c H locs (kc - C) (kt - T) Q (F0 m 0 ls []) := by
  obtain ⟨hx, hb, hml, hown, hts⟩ := id X
  unfold g_X3_putEnd_0 at hf
  refine lv_aload_n hx hb dX3_putEnd_0 rfl (lv_at hl 1 rfl) ?_
  obtain ⟨mc, ms, hcm, ho⟩ := m_galE hf
  refine z_wcallSv X hM (c_X3_putGap ho) gX3_putEnd_X3_putGap rfl ⟨rfl, rfl⟩ ⟨by show kc - (C) + mc ≤ kc; omega, by show kt - (T) + ms ≤ kt; omega⟩ hd_X3_putGap ⟨Nat.le_of_ble_eq_true rfl, Nat.le_of_ble_eq_true rfl⟩ rfl hl.1 rfl (Nat.le_of_ble_eq_true rfl) dX3_putEnd_1 (fun S3 H locs hf hM => ?_)
  refine z_eqCS (c2 := kc - (C - mc)) (t2 := kt - (T - ms)) (by omega) (by omega) ?_
  replace hCT : C - mc ≤ kc ∧ T - ms ≤ kt := by omega
  generalize C - mc = C4 at hf hCT ⊢
  generalize T - ms = T5 at hf hCT ⊢
  clear ho hcm
  refine lv_aload_n hx hb dX3_putEnd_4 rfl (lv_at hl 1 rfl) ?_
  refine lv_aload_n hx hb dX3_putEnd_5 rfl (lv_at hl 0 rfl) ?_
  obtain ⟨ca, hf⟩ := m_chkPE hf
  replace ca := z_in hM (by decide) ca
  refine z_get (k := 1) (j := 6) (C := RX1) (T := TX1) (N := 8) (fl := zf_1) (v := .int (zI S3 6 x1)) X hw_X3_putEnd_1 hM rfl zc_1 ca (by decide) fl_X3_putEnd_1_6 rfl dX3_putEnd_6 ?_
  clear ca
  obtain ⟨o6, ho, hf⟩ := m_calPE hf
  refine z_gcallSNr X hM (c_X11_resultSign ho) gX3_putEnd_X11_resultSign_n95 nn_X3_putEnd_95.1.1 nn_X3_putEnd_95.1.2 nn_X3_putEnd_95.2 rfl ⟨rfl, rfl⟩ hd_X11_resultSign ⟨Nat.le_of_ble_eq_true rfl, Nat.le_of_ble_eq_true rfl⟩ rfl hl.1 rfl ⟨Nat.sub_le _ _, Nat.sub_le _ _⟩ (Nat.le_of_ble_eq_true rfl) dX3_putEnd_9 (fun H locs hM => ?_)
  clear ho
  obtain ⟨ca, hf⟩ := m_chkPE hf
  replace ca := z_in hM (by decide) ca
  obtain ⟨mc, ms, hcm, ho⟩ := m_galE hf
  refine z_wcallVv (k := 6) (C := RX6) (T := TX6) (N := 2) (fl := zf_6) X hM rfl zc_6 ca (c_X6_putText ho) gX3_putEnd_X6_putText rfl ⟨rfl, rfl⟩ ⟨by show kc - (C4) + mc ≤ kc; omega, by show kt - (T5) + ms ≤ kt; omega⟩ hd_X6_putText ⟨Nat.le_of_ble_eq_true rfl, Nat.le_of_ble_eq_true rfl⟩ rfl hl.1 rfl (Nat.le_of_ble_eq_true rfl) dX3_putEnd_12 (fun S9 H locs hf hM => ?_)
  refine z_eqCS (c2 := kc - (C4 - mc)) (t2 := kt - (T5 - ms)) (by omega) (by omega) ?_
  replace hCT : C4 - mc ≤ kc ∧ T5 - ms ≤ kt := by omega
  generalize C4 - mc = C10 at hf hCT ⊢
  generalize T5 - ms = T11 at hf hCT ⊢
  clear ho hcm
  exact hret _ _ _ H locs _ ls hf hM dX3_putEnd_15
noncomputable def g_X3_putEnd (x0 : Nat) (x1 : Nat) (x2 : Nat) (S : ZS) (mc ms : Nat) (Pw : Int32 → ZS → Prop) : Prop := g_X3_putEnd_0 Pw x1 x2 S mc ms
theorem c_X3_putEnd {l : Launch} {D : va_G} {y : Nat → ClassId} {x0 : Nat} {x1 : Nat} {x2 : Nat} {S : ZS} {kc kt : Nat} {Pw : Int32 → ZS → Prop} (hf : g_X3_putEnd x0 x1 x2 S kc kt Pw) : zWv l yX3_putEnd wsX3_putEnd ({ frames := 5, cells := kc, slots := kt, locals := 107 } : Room) [.ref (zh y x0), .ref (zh y x1), .ref (zh y x2)] D y S kc kt Pw :=
  z_wentV (own := RX3) (cc := cX3_putEnd) (maxL := 3) (by decide) rfl rfl (Nat.le_of_ble_eq_true rfl) ⟨rfl, rfl⟩ (fun p e s m args below meth c A0 Q H locs ls X hret hM hl => w_X3_putEnd_0 X hret hf ⟨Nat.le_refl _, Nat.le_refl _⟩ hM (lv_sub hl [1, 2] rfl))
theorem hd_X6_putNumber : yX6_putNumber.cls = RX6 ∧ yX6_putNumber.cls ≠ "java/lang/invoke/MethodHandle" ∧ yX6_putNumber.cls ≠ "java/lang/invoke/VarHandle" ∧ (parseMethodDescriptor yX6_putNumber.desc).map (fun d => d.parameters.length) = some 1 := by decide +kernel
noncomputable def g_X6_putNumber_29s (Pw : Int32 → ZS → Prop) (self29 : Nat → Int32 → Int32 → ZS → Nat → Nat → Prop) (x0 : Nat) (x1 : Int32) (x2 : Int32) (S : ZS) (C T : Nat) : Prop :=
  m_ifQ (x2 ≤ 0) (
  Pw 0 S
  ) (
  m_chkQ (¬ x2 = 0) (
  m_bndP (x1 / x2) (fun v1 =>
  m_bndP (v1 - v1 / (10 : Int32) * (10 : Int32)) (fun v2 =>
  m_bndP ((48 : Int32) + v2) (fun v3 =>
  m_bndP ((v3.toUInt32 % 65536).toInt32) (fun v4 =>
  m_chkQ (zK S x0 = 6) (
  m_gal (C) (T) (fun mc ms Pw => g_X6_put x0 v4 S mc ms Pw) (fun r6 S7 C8 T9 =>
  m_bndP (x2 / (10 : Int32)) (fun v10 =>
  self29 x0 x1 v10 S7 (C8) (T9)))))))))
  )

set_option maxRecDepth 100000 in
set_option maxHeartbeats 4000000 in
theorem ws_X6_putNumber_29 {p : Program} {l : Launch} {e : Env} {s : State} {m : MethodId} {args : Array Value} {below : List Frame} {meth : Method} {c : Code} {Q : State → Prop} {D : va_G} {y : Nat → ClassId} {A0 : Nat → Prop} {kc kt : Nat} {Pw : Int32 → ZS → Prop} (X : CallFix p m c cX6_putNumber 4 s args wsX6_putNumber RX6) (hret : zQv p l e ({ frames := 2, cells := kc, slots := kt, locals := 82 } : Room) s m args below meth c Q cX6_putNumber D y A0 Pw) {self29 : Nat → Int32 → Int32 → ZS → Nat → Nat → Prop} (hself29 : ∀ (x0 : Nat) (x1 : Int32) (x2 : Int32) (S : ZS) (C T : Nat) (H : Heap) (locs : List Loc) (ls : Array Slot), self29 x0 x1 x2 S C T → C ≤ kc ∧ T ≤ kt → zH D y A0 s H locs S → lv_has ls 4 [(0, .ref (zh y x0)), (1, .int x1), (2, .int x2)] → W p l e ({ frames := 2, cells := kc, slots := kt, locals := 82 } : Room) s m args below meth c H locs (kc - C) (kt - T) Q (F0 m 29 ls [])) {x0 : Nat} {x1 : Int32} {x2 : Int32} {S : ZS} {C T : Nat} {H : Heap} {locs : List Loc} {ls : Array Slot} (hf : g_X6_putNumber_29s Pw self29 x0 x1 x2 S C T) (hCT : C ≤ kc ∧ T ≤ kt) (hM : zH D y A0 s H locs S) (hl : lv_has ls 4 [(0, .ref (zh y x0)), (1, .int x1), (2, .int x2)]) : W p l e ({ frames := 2, cells := kc, slots := kt, locals := 82 } : Room) s m args below meth c H locs (kc - C) (kt - T) Q (F0 m 29 ls []) := by
  obtain ⟨hx, hb, hml, hown, hts⟩ := id X
  unfold g_X6_putNumber_29s at hf
  refine lv_iload_n hx hb dX6_putNumber_29 rfl (lv_at hl 2 rfl) ?_
  refine lv_if_le (tgt := 55) hx hb dX6_putNumber_30 (by decide) (fun cc1 => ?_) (fun cc1 => ?_)
  · replace hf := m_ifPT hf cc1
    exact hret _ _ _ H locs _ ls hf hM dX6_putNumber_55
  · replace hf := m_ifPF hf cc1
    refine lv_aload_n hx hb dX6_putNumber_33 rfl (lv_at hl 0 rfl) ?_
    refine lv_bipush (v := (48 : Int32)) hx hb dX6_putNumber_34 (by decide) ?_
    refine lv_iload_n hx hb dX6_putNumber_36 rfl (lv_at hl 1 rfl) ?_
    refine lv_iload_n hx hb dX6_putNumber_37 rfl (lv_at hl 2 rfl) ?_
    obtain ⟨cd, hf⟩ := m_chkPE hf
    refine lv_idiv hx hb dX6_putNumber_38 cd ?_
    obtain ⟨v1, ev, hf⟩ := m_bndPE hf
    refine m_top ev ?_
    clear ev
    refine lv_bipush (v := (10 : Int32)) hx hb dX6_putNumber_39 (by decide) ?_
    refine lv_irem hx hb dX6_putNumber_41 (by decide) ?_
    obtain ⟨v2, ev, hf⟩ := m_bndPE hf
    refine m_top ev ?_
    clear ev
    refine lv_iadd hx hb dX6_putNumber_42 ?_
    obtain ⟨v3, ev, hf⟩ := m_bndPE hf
    refine m_top ev ?_
    clear ev
    refine lv_i2c (v := (v3.toUInt32 % 65536).toInt32) hx hb dX6_putNumber_43 rfl ?_
    obtain ⟨v4, ev, hf⟩ := m_bndPE hf
    refine m_top ev ?_
    clear ev
    obtain ⟨ca, hf⟩ := m_chkPE hf
    replace ca := z_in hM (by decide) ca
    obtain ⟨mc, ms, hcm, ho⟩ := m_galE hf
    refine z_wcallVv (k := 6) (C := RX6) (T := TX6) (N := 2) (fl := zf_6) X hM rfl zc_6 ca (c_X6_put ho) gX6_putNumber_X6_put rfl ⟨rfl, rfl⟩ ⟨by show kc - (C) + mc ≤ kc; omega, by show kt - (T) + ms ≤ kt; omega⟩ hd_X6_put ⟨Nat.le_of_ble_eq_true rfl, Nat.le_of_ble_eq_true rfl⟩ rfl hl.1 rfl (Nat.le_of_ble_eq_true rfl) dX6_putNumber_44 (fun S7 H locs hf hM => ?_)
    refine z_eqCS (c2 := kc - (C - mc)) (t2 := kt - (T - ms)) (by omega) (by omega) ?_
    replace hCT : C - mc ≤ kc ∧ T - ms ≤ kt := by omega
    generalize C - mc = C8 at hf hCT ⊢
    generalize T - ms = T9 at hf hCT ⊢
    clear ho hcm
    refine lv_iload_n hx hb dX6_putNumber_47 rfl (lv_at hl 2 rfl) ?_
    refine lv_bipush (v := (10 : Int32)) hx hb dX6_putNumber_48 (by decide) ?_
    refine lv_idiv hx hb dX6_putNumber_50 (by decide) ?_
    obtain ⟨v10, ev, hf⟩ := m_bndPE hf
    refine m_top ev ?_
    clear ev
    refine lv_istore_n (lv' := [(2, .int v10), (0, .ref (zh y x0)), (1, .int x1)]) hx hb dX6_putNumber_51 rfl hl (by decide) rfl (fun ls hl => ?_)
    refine lv_goto (tgt := 29) hx hb dX6_putNumber_52 (by decide) ?_
    exact hself29 x0 x1 v10 _ _ _ _ _ _ hf hCT hM (lv_sub hl [1, 2, 0] rfl)
noncomputable def g_X6_putNumber_29 (Pw : Int32 → ZS → Prop) : Nat → Nat → Int32 → Int32 → ZS → Nat → Nat → Prop
  | 0 => fun _ _ _ _ _ _ => False
  | n + 1 => g_X6_putNumber_29s Pw (g_X6_putNumber_29 Pw n)
theorem w_X6_putNumber_29 {p : Program} {l : Launch} {e : Env} {s : State} {m : MethodId} {args : Array Value} {below : List Frame} {meth : Method} {c : Code} {Q : State → Prop} {D : va_G} {y : Nat → ClassId} {A0 : Nat → Prop} {kc kt : Nat} {Pw : Int32 → ZS → Prop} (X : CallFix p m c cX6_putNumber 4 s args wsX6_putNumber RX6) (hret : zQv p l e ({ frames := 2, cells := kc, slots := kt, locals := 82 } : Room) s m args below meth c Q cX6_putNumber D y A0 Pw) (n : Nat) : ∀ (x0 : Nat) (x1 : Int32) (x2 : Int32) (S : ZS) (C T : Nat) (H : Heap) (locs : List Loc) (ls : Array Slot), g_X6_putNumber_29 Pw n x0 x1 x2 S C T → C ≤ kc ∧ T ≤ kt → zH D y A0 s H locs S → lv_has ls 4 [(0, .ref (zh y x0)), (1, .int x1), (2, .int x2)] → W p l e ({ frames := 2, cells := kc, slots := kt, locals := 82 } : Room) s m args below meth c H locs (kc - C) (kt - T) Q (F0 m 29 ls []) := by
  induction n with
  | zero => intro x0 x1 x2 S C T H locs ls hf; exact absurd hf id
  | succ n ih => intro x0 x1 x2 S C T H locs ls hf hCT hM hl; exact ws_X6_putNumber_29 X hret (self29 := g_X6_putNumber_29 Pw n) ih hf hCT hM hl
noncomputable def g_X6_putNumber_4s (Pw : Int32 → ZS → Prop) (self4 : Nat → Int32 → Int32 → Int32 → ZS → Nat → Nat → Prop) (x0 : Nat) (x1 : Int32) (x2 : Int32) (x3 : Int32) (S : ZS) (C T : Nat) : Prop :=
  m_ifQ ((9 : Int32) ≤ x3) (
  g_X6_putNumber_29 Pw mFuel x0 x1 x2 S (C) (T)
  ) (
  m_chkQ (¬ x2 = 0) (
  m_bndP (x1 / x2) (fun v1 =>
  m_ifQ (v1 < (10 : Int32)) (
  g_X6_putNumber_29 Pw mFuel x0 x1 x2 S (C) (T)
  ) (
  m_bndP (x2 * (10 : Int32)) (fun v2 =>
  m_bndP (x3 + (1 : Int32)) (fun v3 =>
  self4 x0 x1 v2 v3 S (C) (T)))
  )))
  )

set_option maxRecDepth 100000 in
set_option maxHeartbeats 4000000 in
theorem ws_X6_putNumber_4 {p : Program} {l : Launch} {e : Env} {s : State} {m : MethodId} {args : Array Value} {below : List Frame} {meth : Method} {c : Code} {Q : State → Prop} {D : va_G} {y : Nat → ClassId} {A0 : Nat → Prop} {kc kt : Nat} {Pw : Int32 → ZS → Prop} (X : CallFix p m c cX6_putNumber 4 s args wsX6_putNumber RX6) (hret : zQv p l e ({ frames := 2, cells := kc, slots := kt, locals := 82 } : Room) s m args below meth c Q cX6_putNumber D y A0 Pw) {self4 : Nat → Int32 → Int32 → Int32 → ZS → Nat → Nat → Prop} (hself4 : ∀ (x0 : Nat) (x1 : Int32) (x2 : Int32) (x3 : Int32) (S : ZS) (C T : Nat) (H : Heap) (locs : List Loc) (ls : Array Slot), self4 x0 x1 x2 x3 S C T → C ≤ kc ∧ T ≤ kt → zH D y A0 s H locs S → lv_has ls 4 [(0, .ref (zh y x0)), (1, .int x1), (2, .int x2), (3, .int x3)] → W p l e ({ frames := 2, cells := kc, slots := kt, locals := 82 } : Room) s m args below meth c H locs (kc - C) (kt - T) Q (F0 m 4 ls [])) {x0 : Nat} {x1 : Int32} {x2 : Int32} {x3 : Int32} {S : ZS} {C T : Nat} {H : Heap} {locs : List Loc} {ls : Array Slot} (hf : g_X6_putNumber_4s Pw self4 x0 x1 x2 x3 S C T) (hCT : C ≤ kc ∧ T ≤ kt) (hM : zH D y A0 s H locs S) (hl : lv_has ls 4 [(0, .ref (zh y x0)), (1, .int x1), (2, .int x2), (3, .int x3)]) : W p l e ({ frames := 2, cells := kc, slots := kt, locals := 82 } : Room) s m args below meth c H locs (kc - C) (kt - T) Q (F0 m 4 ls []) := by
  obtain ⟨hx, hb, hml, hown, hts⟩ := id X
  unfold g_X6_putNumber_4s at hf
  refine lv_iload_n hx hb dX6_putNumber_4 rfl (lv_at hl 3 rfl) ?_
  refine lv_bipush (v := (9 : Int32)) hx hb dX6_putNumber_5 (by decide) ?_
  refine lv_icmp_ge (tgt := 29) hx hb dX6_putNumber_7 (by decide) (fun cc1 => ?_) (fun cc1 => ?_)
  · replace hf := m_ifPT hf cc1
    exact w_X6_putNumber_29 X hret _ x0 x1 x2 _ _ _ _ _ _ hf hCT hM (lv_sub hl [0, 1, 2] rfl)
  · replace hf := m_ifPF hf cc1
    refine lv_iload_n hx hb dX6_putNumber_10 rfl (lv_at hl 1 rfl) ?_
    refine lv_iload_n hx hb dX6_putNumber_11 rfl (lv_at hl 2 rfl) ?_
    obtain ⟨cd, hf⟩ := m_chkPE hf
    refine lv_idiv hx hb dX6_putNumber_12 cd ?_
    obtain ⟨v1, ev, hf⟩ := m_bndPE hf
    refine m_top ev ?_
    clear ev
    refine lv_bipush (v := (10 : Int32)) hx hb dX6_putNumber_13 (by decide) ?_
    refine lv_icmp_lt (tgt := 29) hx hb dX6_putNumber_15 (by decide) (fun cc1 => ?_) (fun cc1 => ?_)
    · replace hf := m_ifPT hf cc1
      exact w_X6_putNumber_29 X hret _ x0 x1 x2 _ _ _ _ _ _ hf hCT hM (lv_sub hl [0, 1, 2] rfl)
    · replace hf := m_ifPF hf cc1
      refine lv_iload_n hx hb dX6_putNumber_18 rfl (lv_at hl 2 rfl) ?_
      refine lv_bipush (v := (10 : Int32)) hx hb dX6_putNumber_19 (by decide) ?_
      refine lv_imul hx hb dX6_putNumber_21 ?_
      obtain ⟨v2, ev, hf⟩ := m_bndPE hf
      refine m_top ev ?_
      clear ev
      refine lv_istore_n (lv' := [(2, .int v2), (0, .ref (zh y x0)), (1, .int x1), (3, .int x3)]) hx hb dX6_putNumber_22 rfl hl (by decide) rfl (fun ls hl => ?_)
      obtain ⟨v3, ev, hf⟩ := m_bndPE hf
      refine lv_iinc (v := v3) (lv' := [(3, .int v3), (2, .int v2), (0, .ref (zh y x0)), (1, .int x1)]) hx hb dX6_putNumber_23 hl (k := 3) rfl (by rw [ev]; rfl) (by decide) rfl (fun ls hl => ?_)
      clear ev
      refine lv_goto (tgt := 4) hx hb dX6_putNumber_26 (by decide) ?_
      exact hself4 x0 x1 v2 v3 _ _ _ _ _ _ hf hCT hM (lv_sub hl [2, 3, 1, 0] rfl)
noncomputable def g_X6_putNumber_4 (Pw : Int32 → ZS → Prop) : Nat → Nat → Int32 → Int32 → Int32 → ZS → Nat → Nat → Prop
  | 0 => fun _ _ _ _ _ _ _ => False
  | n + 1 => g_X6_putNumber_4s Pw (g_X6_putNumber_4 Pw n)
theorem w_X6_putNumber_4 {p : Program} {l : Launch} {e : Env} {s : State} {m : MethodId} {args : Array Value} {below : List Frame} {meth : Method} {c : Code} {Q : State → Prop} {D : va_G} {y : Nat → ClassId} {A0 : Nat → Prop} {kc kt : Nat} {Pw : Int32 → ZS → Prop} (X : CallFix p m c cX6_putNumber 4 s args wsX6_putNumber RX6) (hret : zQv p l e ({ frames := 2, cells := kc, slots := kt, locals := 82 } : Room) s m args below meth c Q cX6_putNumber D y A0 Pw) (n : Nat) : ∀ (x0 : Nat) (x1 : Int32) (x2 : Int32) (x3 : Int32) (S : ZS) (C T : Nat) (H : Heap) (locs : List Loc) (ls : Array Slot), g_X6_putNumber_4 Pw n x0 x1 x2 x3 S C T → C ≤ kc ∧ T ≤ kt → zH D y A0 s H locs S → lv_has ls 4 [(0, .ref (zh y x0)), (1, .int x1), (2, .int x2), (3, .int x3)] → W p l e ({ frames := 2, cells := kc, slots := kt, locals := 82 } : Room) s m args below meth c H locs (kc - C) (kt - T) Q (F0 m 4 ls []) := by
  induction n with
  | zero => intro x0 x1 x2 x3 S C T H locs ls hf; exact absurd hf id
  | succ n ih => intro x0 x1 x2 x3 S C T H locs ls hf hCT hM hl; exact ws_X6_putNumber_4 X hret (self4 := g_X6_putNumber_4 Pw n) ih hf hCT hM hl
noncomputable def g_X6_putNumber_0 (Pw : Int32 → ZS → Prop) (x0 : Nat) (x1 : Int32) (S : ZS) (C T : Nat) : Prop :=
  g_X6_putNumber_4 Pw mFuel x0 x1 (1 : Int32) (0 : Int32) S (C) (T)

set_option maxRecDepth 100000 in
set_option maxHeartbeats 4000000 in
theorem w_X6_putNumber_0 {p : Program} {l : Launch} {e : Env} {s : State} {m : MethodId} {args : Array Value} {below : List Frame} {meth : Method} {c : Code} {Q : State → Prop} {D : va_G} {y : Nat → ClassId} {A0 : Nat → Prop} {kc kt : Nat} {Pw : Int32 → ZS → Prop} (X : CallFix p m c cX6_putNumber 4 s args wsX6_putNumber RX6) (hret : zQv p l e ({ frames := 2, cells := kc, slots := kt, locals := 82 } : Room) s m args below meth c Q cX6_putNumber D y A0 Pw) {x0 : Nat} {x1 : Int32} {S : ZS} {C T : Nat} {H : Heap} {locs : List Loc} {ls : Array Slot} (hf : g_X6_putNumber_0 Pw x0 x1 S C T) (hCT : C ≤ kc ∧ T ≤ kt) (hM : zH D y A0 s H locs S) (hl : lv_has ls 4 [(0, .ref (zh y x0)), (1, .int x1)]) : W p l e ({ frames := 2, cells := kc, slots := kt, locals := 82 } : Room) s m args below meth c H locs (kc - C) (kt - T) Q (F0 m 0 ls []) := by
  obtain ⟨hx, hb, hml, hown, hts⟩ := id X
  unfold g_X6_putNumber_0 at hf
  refine lv_iconst (v := (1 : Int32)) hx hb dX6_putNumber_0 (by decide) ?_
  refine lv_istore_n (lv' := [(2, .int (1 : Int32)), (0, .ref (zh y x0)), (1, .int x1)]) hx hb dX6_putNumber_1 rfl hl (by decide) rfl (fun ls hl => ?_)
  refine lv_iconst (v := (0 : Int32)) hx hb dX6_putNumber_2 (by decide) ?_
  refine lv_istore_n (lv' := [(3, .int (0 : Int32)), (2, .int (1 : Int32)), (0, .ref (zh y x0)), (1, .int x1)]) hx hb dX6_putNumber_3 rfl hl (by decide) rfl (fun ls hl => ?_)
  exact w_X6_putNumber_4 X hret _ x0 x1 (1 : Int32) (0 : Int32) _ _ _ _ _ _ hf hCT hM (lv_sub hl [2, 3, 1, 0] rfl)
noncomputable def g_X6_putNumber (x0 : Nat) (x1 : Int32) (S : ZS) (mc ms : Nat) (Pw : Int32 → ZS → Prop) : Prop := g_X6_putNumber_0 Pw x0 x1 S mc ms
theorem c_X6_putNumber {l : Launch} {D : va_G} {y : Nat → ClassId} {x0 : Nat} {x1 : Int32} {S : ZS} {kc kt : Nat} {Pw : Int32 → ZS → Prop} (hf : g_X6_putNumber x0 x1 S kc kt Pw) : zWv l yX6_putNumber wsX6_putNumber ({ frames := 2, cells := kc, slots := kt, locals := 82 } : Room) [.ref (zh y x0), .int x1] D y S kc kt Pw :=
  z_wentV (own := RX6) (cc := cX6_putNumber) (maxL := 4) (by decide) rfl rfl (Nat.le_of_ble_eq_true rfl) ⟨rfl, rfl⟩ (fun p e s m args below meth c A0 Q H locs ls X hret hM hl => w_X6_putNumber_0 X hret hf ⟨Nat.le_refl _, Nat.le_refl _⟩ hM (lv_sub hl [0, 1] rfl))
theorem hd_X11_letterOf : yX11_letterOf.cls ≠ "java/lang/invoke/MethodHandle" ∧ yX11_letterOf.cls ≠ "java/lang/invoke/VarHandle" ∧ (parseMethodDescriptor yX11_letterOf.desc).map (fun d => d.parameters.length) = some 1 := by decide +kernel
theorem sr_X11_letterOf_286 : (RX11, 286, "PNBRQK", 9) ∈ zSR := by decide +kernel
noncomputable def f_X11_letterOf_25 (t0 : Int32) (S : ZS) : Option (Int32 × ZS) :=
  m_chk (vp_nar .char t0 = t0) (some (t0, S))

set_option maxRecDepth 100000 in
set_option maxHeartbeats 4000000 in
theorem w_X11_letterOf_25 {p : Program} {l : Launch} {e : Env} {s : State} {m : MethodId} {args : Array Value} {below : List Frame} {meth : Method} {c : Code} {Q : State → Prop} {D : va_G} {y : Nat → ClassId} {A0 : Nat → Prop} {o : Int32 × ZS} (X : CallFix p m c cX11_letterOf 1 s args wsX11_letterOf RX11) (hret : zRi p l e ({ frames := 4, cells := 0, slots := 0, locals := 85 } : Room) s m args below meth c Q cX11_letterOf D y A0 .char o) {t0 : Int32} {S : ZS} {H : Heap} {locs : List Loc} {ls : Array Slot} (hf : f_X11_letterOf_25 t0 S = some o) (hM : zH D y A0 s H locs S) (hl : lv_has ls 1 []) : W p l e ({ frames := 4, cells := 0, slots := 0, locals := 85 } : Room) s m args below meth c H locs 0 0 Q (F0 m 25 ls [.int t0]) := by
  obtain ⟨hx, hb, hml, hown, hts⟩ := id X
  unfold f_X11_letterOf_25 at hf
  obtain ⟨cd, hf⟩ := m_chkE hf
  cases hf
  exact hret H locs _ ls hM (m_nc cd) dX11_letterOf_25
noncomputable def f_X11_letterOf_23 (S : ZS) : Option (Int32 × ZS) :=
  f_X11_letterOf_25 (63 : Int32) S

set_option maxRecDepth 100000 in
set_option maxHeartbeats 4000000 in
theorem w_X11_letterOf_23 {p : Program} {l : Launch} {e : Env} {s : State} {m : MethodId} {args : Array Value} {below : List Frame} {meth : Method} {c : Code} {Q : State → Prop} {D : va_G} {y : Nat → ClassId} {A0 : Nat → Prop} {o : Int32 × ZS} (X : CallFix p m c cX11_letterOf 1 s args wsX11_letterOf RX11) (hret : zRi p l e ({ frames := 4, cells := 0, slots := 0, locals := 85 } : Room) s m args below meth c Q cX11_letterOf D y A0 .char o) {S : ZS} {H : Heap} {locs : List Loc} {ls : Array Slot} (hf : f_X11_letterOf_23  S = some o) (hM : zH D y A0 s H locs S) (hl : lv_has ls 1 []) : W p l e ({ frames := 4, cells := 0, slots := 0, locals := 85 } : Room) s m args below meth c H locs 0 0 Q (F0 m 23 ls []) := by
  obtain ⟨hx, hb, hml, hown, hts⟩ := id X
  unfold f_X11_letterOf_23 at hf
  refine lv_bipush (v := (63 : Int32)) hx hb dX11_letterOf_23 (by decide) ?_
  exact w_X11_letterOf_25 (t0 := (63 : Int32)) X hret hf hM (lv_sub hl [] rfl)
noncomputable def f_X11_letterOf_0 (x0 : Int32) (S : ZS) : Option (Int32 × ZS) :=
  m_if (x0 < (1 : Int32)) (
  f_X11_letterOf_23  S
  ) (
  m_if ((6 : Int32) < x0) (
  f_X11_letterOf_23  S
  ) (
  m_bnd (x0 - (1 : Int32)) (fun v1 =>
  m_chk (9 < zSn) (
  m_cal (f_J0_charAt_5068e 9 v1 S) (fun o2 =>
  f_X11_letterOf_25 o2.1 o2.2)))
  )
  )

set_option maxRecDepth 100000 in
set_option maxHeartbeats 4000000 in
theorem w_X11_letterOf_0 {p : Program} {l : Launch} {e : Env} {s : State} {m : MethodId} {args : Array Value} {below : List Frame} {meth : Method} {c : Code} {Q : State → Prop} {D : va_G} {y : Nat → ClassId} {A0 : Nat → Prop} {o : Int32 × ZS} (X : CallFix p m c cX11_letterOf 1 s args wsX11_letterOf RX11) (hret : zRi p l e ({ frames := 4, cells := 0, slots := 0, locals := 85 } : Room) s m args below meth c Q cX11_letterOf D y A0 .char o) {x0 : Int32} {S : ZS} {H : Heap} {locs : List Loc} {ls : Array Slot} (hf : f_X11_letterOf_0 x0 S = some o) (hM : zH D y A0 s H locs S) (hl : lv_has ls 1 [(0, .int x0)]) : W p l e ({ frames := 4, cells := 0, slots := 0, locals := 85 } : Room) s m args below meth c H locs 0 0 Q (F0 m 0 ls []) := by
  obtain ⟨hx, hb, hml, hown, hts⟩ := id X
  unfold f_X11_letterOf_0 at hf
  refine lv_iload_n hx hb dX11_letterOf_0 rfl (lv_at hl 0 rfl) ?_
  refine lv_iconst (v := (1 : Int32)) hx hb dX11_letterOf_1 (by decide) ?_
  refine lv_icmp_lt (tgt := 23) hx hb dX11_letterOf_2 (by decide) (fun cc1 => ?_) (fun cc1 => ?_)
  · replace hf := m_ifT hf cc1
    exact w_X11_letterOf_23 X hret hf hM (lv_sub hl [] rfl)
  · replace hf := m_ifF hf cc1
    refine lv_iload_n hx hb dX11_letterOf_5 rfl (lv_at hl 0 rfl) ?_
    refine lv_bipush (v := (6 : Int32)) hx hb dX11_letterOf_6 (by decide) ?_
    refine lv_icmp_gt (tgt := 23) hx hb dX11_letterOf_8 (by decide) (fun cc1 => ?_) (fun cc1 => ?_)
    · replace hf := m_ifT hf cc1
      exact w_X11_letterOf_23 X hret hf hM (lv_sub hl [] rfl)
    · replace hf := m_ifF hf cc1
      refine z_ldcwS X hM sr_X11_letterOf_286 dX11_letterOf_11 ?_
      refine lv_iload_n hx hb dX11_letterOf_14 rfl (lv_at hl 0 rfl) ?_
      refine lv_iconst (v := (1 : Int32)) hx hb dX11_letterOf_15 (by decide) ?_
      refine lv_isub hx hb dX11_letterOf_16 ?_
      obtain ⟨v1, ev, hf⟩ := m_bndE hf
      refine m_top ev ?_
      clear ev
      obtain ⟨ca, hf⟩ := m_chkE hf
      obtain ⟨o2, ho, hf⟩ := m_calE hf
      refine z_callTi X hM ca (c_J0_charAt_5068e ho) gX11_letterOf_J0_charAt_5068e rfl ⟨rfl, rfl⟩ hd_J0_charAt_5068e ⟨Nat.le_of_ble_eq_true rfl, Nat.le_of_ble_eq_true rfl⟩ rfl hl.1 rfl (Nat.le_of_ble_eq_true rfl) dX11_letterOf_17 (fun H locs hM => ?_)
      clear ho
      refine lv_goto (tgt := 25) hx hb dX11_letterOf_20 (by decide) ?_
      exact w_X11_letterOf_25 (t0 := o2.1) X hret hf hM (lv_sub hl [] rfl)
noncomputable def f_X11_letterOf (x0 : Int32) (S : ZS) : Option (Int32 × ZS) := f_X11_letterOf_0 x0 S
theorem c_X11_letterOf {l : Launch} {D : va_G} {y : Nat → ClassId} {x0 : Int32} {S : ZS} {o : Int32 × ZS} (hf : f_X11_letterOf x0 S = some o) : zMi l yX11_letterOf wsX11_letterOf ({ frames := 4, cells := 0, slots := 0, locals := 85 } : Room) [.int x0] D y S o :=
  z_entryI (own := RX11) (cc := cX11_letterOf) (maxL := 1) (by decide) rfl rfl (Nat.le_of_ble_eq_true rfl) (fun p e s m args below meth c A0 Q H locs ls X hret hM hl => w_X11_letterOf_0 X hret hf hM (lv_sub hl [0] rfl))
theorem hd_X11_fileLetter : yX11_fileLetter.cls ≠ "java/lang/invoke/MethodHandle" ∧ yX11_fileLetter.cls ≠ "java/lang/invoke/VarHandle" ∧ (parseMethodDescriptor yX11_fileLetter.desc).map (fun d => d.parameters.length) = some 1 := by decide +kernel
noncomputable def f_X11_fileLetter_0 (x0 : Int32) (S : ZS) : Option (Int32 × ZS) :=
  m_bnd (x0 &&& (7 : Int32)) (fun v1 =>
  m_bnd ((97 : Int32) + v1) (fun v2 =>
  m_bnd ((v2.toUInt32 % 65536).toInt32) (fun v3 =>
  m_chk (vp_nar .char v3 = v3) (some (v3, S)))))

set_option maxRecDepth 100000 in
set_option maxHeartbeats 4000000 in
theorem w_X11_fileLetter_0 {p : Program} {l : Launch} {e : Env} {s : State} {m : MethodId} {args : Array Value} {below : List Frame} {meth : Method} {c : Code} {Q : State → Prop} {D : va_G} {y : Nat → ClassId} {A0 : Nat → Prop} {o : Int32 × ZS} (X : CallFix p m c cX11_fileLetter 1 s args wsX11_fileLetter RX11) (hret : zRi p l e ({ frames := 0, cells := 0, slots := 0, locals := 0 } : Room) s m args below meth c Q cX11_fileLetter D y A0 .char o) {x0 : Int32} {S : ZS} {H : Heap} {locs : List Loc} {ls : Array Slot} (hf : f_X11_fileLetter_0 x0 S = some o) (hM : zH D y A0 s H locs S) (hl : lv_has ls 1 [(0, .int x0)]) : W p l e ({ frames := 0, cells := 0, slots := 0, locals := 0 } : Room) s m args below meth c H locs 0 0 Q (F0 m 0 ls []) := by
  obtain ⟨hx, hb, hml, hown, hts⟩ := id X
  unfold f_X11_fileLetter_0 at hf
  refine lv_bipush (v := (97 : Int32)) hx hb dX11_fileLetter_0 (by decide) ?_
  refine lv_iload_n hx hb dX11_fileLetter_2 rfl (lv_at hl 0 rfl) ?_
  refine lv_bipush (v := (7 : Int32)) hx hb dX11_fileLetter_3 (by decide) ?_
  refine lv_iand hx hb dX11_fileLetter_5 ?_
  obtain ⟨v1, ev, hf⟩ := m_bndE hf
  refine m_top ev ?_
  clear ev
  refine lv_iadd hx hb dX11_fileLetter_6 ?_
  obtain ⟨v2, ev, hf⟩ := m_bndE hf
  refine m_top ev ?_
  clear ev
  refine lv_i2c (v := (v2.toUInt32 % 65536).toInt32) hx hb dX11_fileLetter_7 rfl ?_
  obtain ⟨v3, ev, hf⟩ := m_bndE hf
  refine m_top ev ?_
  clear ev
  obtain ⟨cd, hf⟩ := m_chkE hf
  cases hf
  exact hret H locs _ ls hM (m_nc cd) dX11_fileLetter_8
noncomputable def f_X11_fileLetter (x0 : Int32) (S : ZS) : Option (Int32 × ZS) := f_X11_fileLetter_0 x0 S
theorem c_X11_fileLetter {l : Launch} {D : va_G} {y : Nat → ClassId} {x0 : Int32} {S : ZS} {o : Int32 × ZS} (hf : f_X11_fileLetter x0 S = some o) : zMi l yX11_fileLetter wsX11_fileLetter ({ frames := 0, cells := 0, slots := 0, locals := 0 } : Room) [.int x0] D y S o :=
  z_entryI (own := RX11) (cc := cX11_fileLetter) (maxL := 1) (by decide) rfl rfl (Nat.le_of_ble_eq_true rfl) (fun p e s m args below meth c A0 Q H locs ls X hret hM hl => w_X11_fileLetter_0 X hret hf hM (lv_sub hl [0] rfl))
theorem hd_X11_rankDigit : yX11_rankDigit.cls ≠ "java/lang/invoke/MethodHandle" ∧ yX11_rankDigit.cls ≠ "java/lang/invoke/VarHandle" ∧ (parseMethodDescriptor yX11_rankDigit.desc).map (fun d => d.parameters.length) = some 1 := by decide +kernel
noncomputable def f_X11_rankDigit_0 (x0 : Int32) (S : ZS) : Option (Int32 × ZS) :=
  m_bnd (x0 >>> ((3 : Int32) &&& 31)) (fun v1 =>
  m_bnd ((49 : Int32) + v1) (fun v2 =>
  m_bnd ((v2.toUInt32 % 65536).toInt32) (fun v3 =>
  m_chk (vp_nar .char v3 = v3) (some (v3, S)))))

set_option maxRecDepth 100000 in
set_option maxHeartbeats 4000000 in
theorem w_X11_rankDigit_0 {p : Program} {l : Launch} {e : Env} {s : State} {m : MethodId} {args : Array Value} {below : List Frame} {meth : Method} {c : Code} {Q : State → Prop} {D : va_G} {y : Nat → ClassId} {A0 : Nat → Prop} {o : Int32 × ZS} (X : CallFix p m c cX11_rankDigit 1 s args wsX11_rankDigit RX11) (hret : zRi p l e ({ frames := 0, cells := 0, slots := 0, locals := 0 } : Room) s m args below meth c Q cX11_rankDigit D y A0 .char o) {x0 : Int32} {S : ZS} {H : Heap} {locs : List Loc} {ls : Array Slot} (hf : f_X11_rankDigit_0 x0 S = some o) (hM : zH D y A0 s H locs S) (hl : lv_has ls 1 [(0, .int x0)]) : W p l e ({ frames := 0, cells := 0, slots := 0, locals := 0 } : Room) s m args below meth c H locs 0 0 Q (F0 m 0 ls []) := by
  obtain ⟨hx, hb, hml, hown, hts⟩ := id X
  unfold f_X11_rankDigit_0 at hf
  refine lv_bipush (v := (49 : Int32)) hx hb dX11_rankDigit_0 (by decide) ?_
  refine lv_iload_n hx hb dX11_rankDigit_2 rfl (lv_at hl 0 rfl) ?_
  refine lv_iconst (v := (3 : Int32)) hx hb dX11_rankDigit_3 (by decide) ?_
  refine lv_ishr hx hb dX11_rankDigit_4 ?_
  obtain ⟨v1, ev, hf⟩ := m_bndE hf
  refine m_top ev ?_
  clear ev
  refine lv_iadd hx hb dX11_rankDigit_5 ?_
  obtain ⟨v2, ev, hf⟩ := m_bndE hf
  refine m_top ev ?_
  clear ev
  refine lv_i2c (v := (v2.toUInt32 % 65536).toInt32) hx hb dX11_rankDigit_6 rfl ?_
  obtain ⟨v3, ev, hf⟩ := m_bndE hf
  refine m_top ev ?_
  clear ev
  obtain ⟨cd, hf⟩ := m_chkE hf
  cases hf
  exact hret H locs _ ls hM (m_nc cd) dX11_rankDigit_7
noncomputable def f_X11_rankDigit (x0 : Int32) (S : ZS) : Option (Int32 × ZS) := f_X11_rankDigit_0 x0 S
theorem c_X11_rankDigit {l : Launch} {D : va_G} {y : Nat → ClassId} {x0 : Int32} {S : ZS} {o : Int32 × ZS} (hf : f_X11_rankDigit x0 S = some o) : zMi l yX11_rankDigit wsX11_rankDigit ({ frames := 0, cells := 0, slots := 0, locals := 0 } : Room) [.int x0] D y S o :=
  z_entryI (own := RX11) (cc := cX11_rankDigit) (maxL := 1) (by decide) rfl rfl (Nat.le_of_ble_eq_true rfl) (fun p e s m args below meth c A0 Q H locs ls X hret hM hl => w_X11_rankDigit_0 X hret hf hM (lv_sub hl [0] rfl))
theorem hd_X9_putApart : yX9_putApart.cls = RX9 ∧ yX9_putApart.cls ≠ "java/lang/invoke/MethodHandle" ∧ yX9_putApart.cls ≠ "java/lang/invoke/VarHandle" ∧ (parseMethodDescriptor yX9_putApart.desc).map (fun d => d.parameters.length) = some 4 := by decide +kernel
theorem fl_X9_putApart_0_0 : Cond.fieldLink RX9 63 "MoveTexts$Board" "men" "[I" ∈ wsX9_putApart := by decide +kernel
theorem fl_X9_putApart_9_0 : Cond.fieldLink RX9 12 "MoveTexts$SignWriter" "rules" "LMoveTexts$Rules;" ∈ wsX9_putApart := by decide +kernel
theorem hw_X9_putApart_0 : ∀ w ∈ wsX00, w ∈ wsX9_putApart := by decide +kernel
theorem hw_X9_putApart_9 : ∀ w ∈ wsX90, w ∈ wsX9_putApart := by decide +kernel
theorem nn_X9_putApart_53 : ((RX9, 53, yX11_fileLetter, "MoveTexts") ∈ zNW ∧ Cond.initialized yX11_fileLetter.cls ∈ wsX9_putApart) ∧ Cond.static yX11_fileLetter ∈ wsX9_putApart := by decide +kernel
theorem nn_X9_putApart_56 : ((RX9, 56, yX11_rankDigit, "MoveTexts") ∈ zNW ∧ Cond.initialized yX11_rankDigit.cls ∈ wsX9_putApart) ∧ Cond.static yX11_rankDigit ∈ wsX9_putApart := by decide +kernel
noncomputable def g_X9_putApart_162 (Pw : Int32 → ZS → Prop) (S : ZS) (C T : Nat) : Prop :=
  Pw 0 S

set_option maxRecDepth 100000 in
set_option maxHeartbeats 4000000 in
theorem w_X9_putApart_162 {p : Program} {l : Launch} {e : Env} {s : State} {m : MethodId} {args : Array Value} {below : List Frame} {meth : Method} {c : Code} {Q : State → Prop} {D : va_G} {y : Nat → ClassId} {A0 : Nat → Prop} {kc kt : Nat} {Pw : Int32 → ZS → Prop} (X : CallFix p m c cX9_putApart 9 s args wsX9_putApart RX9) (hret : zQv p l e ({ frames := 3, cells := kc, slots := kt, locals := 106 } : Room) s m args below meth c Q cX9_putApart D y A0 Pw) {S : ZS} {C T : Nat} {H : Heap} {locs : List Loc} {ls : Array Slot} (hf : g_X9_putApart_162 Pw  S C T) (hCT : C ≤ kc ∧ T ≤ kt) (hM : zH D y A0 s H locs S) (hl : lv_has ls 9 []) : W p l e ({ frames := 3, cells := kc, slots := kt, locals := 106 } : Room) s m args below meth c H locs (kc - C) (kt - T) Q (F0 m 162 ls []) := by
  obtain ⟨hx, hb, hml, hown, hts⟩ := id X
  unfold g_X9_putApart_162 at hf
  exact hret _ _ _ H locs _ ls hf hM dX9_putApart_162
noncomputable def g_X9_putApart_148 (Pw : Int32 → ZS → Prop) (x2 : Int32) (x4 : Nat) (x6 : Int32) (S : ZS) (C T : Nat) : Prop :=
  m_ifQ (x6 = 0) (
  g_X9_putApart_162 Pw  S (C) (T)
  ) (
  m_calP (f_X11_rankDigit x2 S) (fun o1 =>
  m_chkQ (zK o1.2 x4 = 6) (
  m_gal (C) (T) (fun mc ms Pw => g_X6_put x4 o1.1 o1.2 mc ms Pw) (fun r3 S4 C5 T6 =>
  g_X9_putApart_162 Pw  S4 (C5) (T6))))
  )

set_option maxRecDepth 100000 in
set_option maxHeartbeats 4000000 in
theorem w_X9_putApart_148 {p : Program} {l : Launch} {e : Env} {s : State} {m : MethodId} {args : Array Value} {below : List Frame} {meth : Method} {c : Code} {Q : State → Prop} {D : va_G} {y : Nat → ClassId} {A0 : Nat → Prop} {kc kt : Nat} {Pw : Int32 → ZS → Prop} (X : CallFix p m c cX9_putApart 9 s args wsX9_putApart RX9) (hret : zQv p l e ({ frames := 3, cells := kc, slots := kt, locals := 106 } : Room) s m args below meth c Q cX9_putApart D y A0 Pw) {x2 : Int32} {x4 : Nat} {x6 : Int32} {S : ZS} {C T : Nat} {H : Heap} {locs : List Loc} {ls : Array Slot} (hf : g_X9_putApart_148 Pw x2 x4 x6 S C T) (hCT : C ≤ kc ∧ T ≤ kt) (hM : zH D y A0 s H locs S) (hl : lv_has ls 9 [(2, .int x2), (4, .ref (zh y x4)), (6, .int x6)]) : W p l e ({ frames := 3, cells := kc, slots := kt, locals := 106 } : Room) s m args below meth c H locs (kc - C) (kt - T) Q (F0 m 148 ls []) := by
  obtain ⟨hx, hb, hml, hown, hts⟩ := id X
  unfold g_X9_putApart_148 at hf
  refine lv_iload hx hb dX9_putApart_148 (lv_at hl 2 rfl) ?_
  refine lv_if_eq (tgt := 162) hx hb dX9_putApart_150 (by decide) (fun cc1 => ?_) (fun cc1 => ?_)
  · replace hf := m_ifPT hf cc1
    exact w_X9_putApart_162 X hret hf hCT hM (lv_sub hl [] rfl)
  · replace hf := m_ifPF hf cc1
    refine lv_aload hx hb dX9_putApart_153 (lv_at hl 1 rfl) ?_
    refine lv_iload_n hx hb dX9_putApart_155 rfl (lv_at hl 0 rfl) ?_
    obtain ⟨o1, ho, hf⟩ := m_calPE hf
    refine z_gcallSNi X hM (c_X11_rankDigit ho) gX9_putApart_X11_rankDigit_n56 nn_X9_putApart_56.1.1 nn_X9_putApart_56.1.2 nn_X9_putApart_56.2 rfl ⟨rfl, rfl⟩ hd_X11_rankDigit ⟨Nat.le_of_ble_eq_true rfl, Nat.le_of_ble_eq_true rfl⟩ rfl hl.1 rfl ⟨Nat.sub_le _ _, Nat.sub_le _ _⟩ (Nat.le_of_ble_eq_true rfl) dX9_putApart_156 (fun H locs hM => ?_)
    clear ho
    obtain ⟨ca, hf⟩ := m_chkPE hf
    replace ca := z_in hM (by decide) ca
    obtain ⟨mc, ms, hcm, ho⟩ := m_galE hf
    refine z_wcallVv (k := 6) (C := RX6) (T := TX6) (N := 2) (fl := zf_6) X hM rfl zc_6 ca (c_X6_put ho) gX9_putApart_X6_put rfl ⟨rfl, rfl⟩ ⟨by show kc - (C) + mc ≤ kc; omega, by show kt - (T) + ms ≤ kt; omega⟩ hd_X6_put ⟨Nat.le_of_ble_eq_true rfl, Nat.le_of_ble_eq_true rfl⟩ rfl hl.1 rfl (Nat.le_of_ble_eq_true rfl) dX9_putApart_159 (fun S4 H locs hf hM => ?_)
    refine z_eqCS (c2 := kc - (C - mc)) (t2 := kt - (T - ms)) (by omega) (by omega) ?_
    replace hCT : C - mc ≤ kc ∧ T - ms ≤ kt := by omega
    generalize C - mc = C5 at hf hCT ⊢
    generalize T - ms = T6 at hf hCT ⊢
    clear ho hcm
    exact w_X9_putApart_162 X hret hf hCT hM (lv_sub hl [] rfl)
noncomputable def g_X9_putApart_139 (Pw : Int32 → ZS → Prop) (x2 : Int32) (x4 : Nat) (x6 : Int32) (S : ZS) (C T : Nat) : Prop :=
  m_calP (f_X11_fileLetter x2 S) (fun o1 =>
  m_chkQ (zK o1.2 x4 = 6) (
  m_gal (C) (T) (fun mc ms Pw => g_X6_put x4 o1.1 o1.2 mc ms Pw) (fun r3 S4 C5 T6 =>
  g_X9_putApart_148 Pw x2 x4 x6 S4 (C5) (T6))))

set_option maxRecDepth 100000 in
set_option maxHeartbeats 4000000 in
theorem w_X9_putApart_139 {p : Program} {l : Launch} {e : Env} {s : State} {m : MethodId} {args : Array Value} {below : List Frame} {meth : Method} {c : Code} {Q : State → Prop} {D : va_G} {y : Nat → ClassId} {A0 : Nat → Prop} {kc kt : Nat} {Pw : Int32 → ZS → Prop} (X : CallFix p m c cX9_putApart 9 s args wsX9_putApart RX9) (hret : zQv p l e ({ frames := 3, cells := kc, slots := kt, locals := 106 } : Room) s m args below meth c Q cX9_putApart D y A0 Pw) {x2 : Int32} {x4 : Nat} {x6 : Int32} {S : ZS} {C T : Nat} {H : Heap} {locs : List Loc} {ls : Array Slot} (hf : g_X9_putApart_139 Pw x2 x4 x6 S C T) (hCT : C ≤ kc ∧ T ≤ kt) (hM : zH D y A0 s H locs S) (hl : lv_has ls 9 [(2, .int x2), (4, .ref (zh y x4)), (6, .int x6)]) : W p l e ({ frames := 3, cells := kc, slots := kt, locals := 106 } : Room) s m args below meth c H locs (kc - C) (kt - T) Q (F0 m 139 ls []) := by
  obtain ⟨hx, hb, hml, hown, hts⟩ := id X
  unfold g_X9_putApart_139 at hf
  refine lv_aload hx hb dX9_putApart_139 (lv_at hl 1 rfl) ?_
  refine lv_iload_n hx hb dX9_putApart_141 rfl (lv_at hl 0 rfl) ?_
  obtain ⟨o1, ho, hf⟩ := m_calPE hf
  refine z_gcallSNi X hM (c_X11_fileLetter ho) gX9_putApart_X11_fileLetter_n53 nn_X9_putApart_53.1.1 nn_X9_putApart_53.1.2 nn_X9_putApart_53.2 rfl ⟨rfl, rfl⟩ hd_X11_fileLetter ⟨Nat.le_of_ble_eq_true rfl, Nat.le_of_ble_eq_true rfl⟩ rfl hl.1 rfl ⟨Nat.sub_le _ _, Nat.sub_le _ _⟩ (Nat.le_of_ble_eq_true rfl) dX9_putApart_142 (fun H locs hM => ?_)
  clear ho
  obtain ⟨ca, hf⟩ := m_chkPE hf
  replace ca := z_in hM (by decide) ca
  obtain ⟨mc, ms, hcm, ho⟩ := m_galE hf
  refine z_wcallVv (k := 6) (C := RX6) (T := TX6) (N := 2) (fl := zf_6) X hM rfl zc_6 ca (c_X6_put ho) gX9_putApart_X6_put rfl ⟨rfl, rfl⟩ ⟨by show kc - (C) + mc ≤ kc; omega, by show kt - (T) + ms ≤ kt; omega⟩ hd_X6_put ⟨Nat.le_of_ble_eq_true rfl, Nat.le_of_ble_eq_true rfl⟩ rfl hl.1 rfl (Nat.le_of_ble_eq_true rfl) dX9_putApart_145 (fun S4 H locs hf hM => ?_)
  refine z_eqCS (c2 := kc - (C - mc)) (t2 := kt - (T - ms)) (by omega) (by omega) ?_
  replace hCT : C - mc ≤ kc ∧ T - ms ≤ kt := by omega
  generalize C - mc = C5 at hf hCT ⊢
  generalize T - ms = T6 at hf hCT ⊢
  clear ho hcm
  exact w_X9_putApart_148 (x2 := x2) (x4 := x4) (x6 := x6) X hret hf hCT hM (lv_sub hl [0, 1, 2] rfl)
noncomputable def g_X9_putApart_118 (Pw : Int32 → ZS → Prop) (self12 : Nat → Nat → Int32 → Int32 → Nat → Int32 → Int32 → Int32 → Int32 → ZS → Nat → Nat → Prop) (x0 : Nat) (x1 : Nat) (x2 : Int32) (x3 : Int32) (x4 : Nat) (x5 : Int32) (x6 : Int32) (x7 : Int32) (x8 : Int32) (S : ZS) (C T : Nat) : Prop :=
  m_bndP (x8 + (1 : Int32)) (fun v1 =>
  self12 x0 x1 x2 x3 x4 x5 x6 x7 v1 S (C) (T))

set_option maxRecDepth 100000 in
set_option maxHeartbeats 4000000 in
theorem w_X9_putApart_118 {p : Program} {l : Launch} {e : Env} {s : State} {m : MethodId} {args : Array Value} {below : List Frame} {meth : Method} {c : Code} {Q : State → Prop} {D : va_G} {y : Nat → ClassId} {A0 : Nat → Prop} {kc kt : Nat} {Pw : Int32 → ZS → Prop} (X : CallFix p m c cX9_putApart 9 s args wsX9_putApart RX9) (hret : zQv p l e ({ frames := 3, cells := kc, slots := kt, locals := 106 } : Room) s m args below meth c Q cX9_putApart D y A0 Pw) {self12 : Nat → Nat → Int32 → Int32 → Nat → Int32 → Int32 → Int32 → Int32 → ZS → Nat → Nat → Prop} (hself12 : ∀ (x0 : Nat) (x1 : Nat) (x2 : Int32) (x3 : Int32) (x4 : Nat) (x5 : Int32) (x6 : Int32) (x7 : Int32) (x8 : Int32) (S : ZS) (C T : Nat) (H : Heap) (locs : List Loc) (ls : Array Slot), self12 x0 x1 x2 x3 x4 x5 x6 x7 x8 S C T → C ≤ kc ∧ T ≤ kt → zH D y A0 s H locs S → lv_has ls 9 [(0, .ref (zh y x0)), (1, .ref (zh y x1)), (2, .int x2), (3, .int x3), (4, .ref (zh y x4)), (5, .int x5), (6, .int x6), (7, .int x7), (8, .int x8)] → W p l e ({ frames := 3, cells := kc, slots := kt, locals := 106 } : Room) s m args below meth c H locs (kc - C) (kt - T) Q (F0 m 12 ls [])) {x0 : Nat} {x1 : Nat} {x2 : Int32} {x3 : Int32} {x4 : Nat} {x5 : Int32} {x6 : Int32} {x7 : Int32} {x8 : Int32} {S : ZS} {C T : Nat} {H : Heap} {locs : List Loc} {ls : Array Slot} (hf : g_X9_putApart_118 Pw self12 x0 x1 x2 x3 x4 x5 x6 x7 x8 S C T) (hCT : C ≤ kc ∧ T ≤ kt) (hM : zH D y A0 s H locs S) (hl : lv_has ls 9 [(0, .ref (zh y x0)), (1, .ref (zh y x1)), (2, .int x2), (3, .int x3), (4, .ref (zh y x4)), (5, .int x5), (6, .int x6), (7, .int x7), (8, .int x8)]) : W p l e ({ frames := 3, cells := kc, slots := kt, locals := 106 } : Room) s m args below meth c H locs (kc - C) (kt - T) Q (F0 m 118 ls []) := by
  obtain ⟨hx, hb, hml, hown, hts⟩ := id X
  unfold g_X9_putApart_118 at hf
  obtain ⟨v1, ev, hf⟩ := m_bndPE hf
  refine lv_iinc (v := v1) (lv' := [(8, .int v1), (0, .ref (zh y x0)), (1, .ref (zh y x1)), (2, .int x2), (3, .int x3), (4, .ref (zh y x4)), (5, .int x5), (6, .int x6), (7, .int x7)]) hx hb dX9_putApart_118 hl (k := 8) rfl (by rw [ev]; rfl) (by decide) rfl (fun ls hl => ?_)
  clear ev
  refine lv_goto (tgt := 12) hx hb dX9_putApart_121 (by decide) ?_
  exact hself12 x0 x1 x2 x3 x4 x5 x6 x7 v1 _ _ _ _ _ _ hf hCT hM (lv_sub hl [1, 2, 3, 4, 5, 6, 7, 8, 0] rfl)
noncomputable def g_X9_putApart_116 (Pw : Int32 → ZS → Prop) (self12 : Nat → Nat → Int32 → Int32 → Nat → Int32 → Int32 → Int32 → Int32 → ZS → Nat → Nat → Prop) (x0 : Nat) (x1 : Nat) (x2 : Int32) (x3 : Int32) (x4 : Nat) (x5 : Int32) (x6 : Int32) (x8 : Int32) (t0 : Int32) (S : ZS) (C T : Nat) : Prop :=
  g_X9_putApart_118 Pw self12 x0 x1 x2 x3 x4 x5 x6 t0 x8 S (C) (T)

set_option maxRecDepth 100000 in
set_option maxHeartbeats 4000000 in
theorem w_X9_putApart_116 {p : Program} {l : Launch} {e : Env} {s : State} {m : MethodId} {args : Array Value} {below : List Frame} {meth : Method} {c : Code} {Q : State → Prop} {D : va_G} {y : Nat → ClassId} {A0 : Nat → Prop} {kc kt : Nat} {Pw : Int32 → ZS → Prop} (X : CallFix p m c cX9_putApart 9 s args wsX9_putApart RX9) (hret : zQv p l e ({ frames := 3, cells := kc, slots := kt, locals := 106 } : Room) s m args below meth c Q cX9_putApart D y A0 Pw) {self12 : Nat → Nat → Int32 → Int32 → Nat → Int32 → Int32 → Int32 → Int32 → ZS → Nat → Nat → Prop} (hself12 : ∀ (x0 : Nat) (x1 : Nat) (x2 : Int32) (x3 : Int32) (x4 : Nat) (x5 : Int32) (x6 : Int32) (x7 : Int32) (x8 : Int32) (S : ZS) (C T : Nat) (H : Heap) (locs : List Loc) (ls : Array Slot), self12 x0 x1 x2 x3 x4 x5 x6 x7 x8 S C T → C ≤ kc ∧ T ≤ kt → zH D y A0 s H locs S → lv_has ls 9 [(0, .ref (zh y x0)), (1, .ref (zh y x1)), (2, .int x2), (3, .int x3), (4, .ref (zh y x4)), (5, .int x5), (6, .int x6), (7, .int x7), (8, .int x8)] → W p l e ({ frames := 3, cells := kc, slots := kt, locals := 106 } : Room) s m args below meth c H locs (kc - C) (kt - T) Q (F0 m 12 ls [])) {x0 : Nat} {x1 : Nat} {x2 : Int32} {x3 : Int32} {x4 : Nat} {x5 : Int32} {x6 : Int32} {x8 : Int32} {t0 : Int32} {S : ZS} {C T : Nat} {H : Heap} {locs : List Loc} {ls : Array Slot} (hf : g_X9_putApart_116 Pw self12 x0 x1 x2 x3 x4 x5 x6 x8 t0 S C T) (hCT : C ≤ kc ∧ T ≤ kt) (hM : zH D y A0 s H locs S) (hl : lv_has ls 9 [(0, .ref (zh y x0)), (1, .ref (zh y x1)), (2, .int x2), (3, .int x3), (4, .ref (zh y x4)), (5, .int x5), (6, .int x6), (8, .int x8)]) : W p l e ({ frames := 3, cells := kc, slots := kt, locals := 106 } : Room) s m args below meth c H locs (kc - C) (kt - T) Q (F0 m 116 ls [.int t0]) := by
  obtain ⟨hx, hb, hml, hown, hts⟩ := id X
  unfold g_X9_putApart_116 at hf
  refine lv_istore (lv' := [(7, .int t0), (0, .ref (zh y x0)), (1, .ref (zh y x1)), (2, .int x2), (3, .int x3), (4, .ref (zh y x4)), (5, .int x5), (6, .int x6), (8, .int x8)]) hx hb dX9_putApart_116 hl (by decide) rfl (fun ls hl => ?_)
  exact w_X9_putApart_118 (x0 := x0) (x1 := x1) (x2 := x2) (x3 := x3) (x4 := x4) (x5 := x5) (x6 := x6) (x7 := t0) (x8 := x8) X hret hself12 hf hCT hM (lv_sub hl [1, 2, 3, 4, 5, 6, 7, 0, 8] rfl)
noncomputable def g_X9_putApart_111 (Pw : Int32 → ZS → Prop) (self12 : Nat → Nat → Int32 → Int32 → Nat → Int32 → Int32 → Int32 → Int32 → ZS → Nat → Nat → Prop) (x0 : Nat) (x1 : Nat) (x2 : Int32) (x3 : Int32) (x4 : Nat) (x5 : Int32) (x6 : Int32) (x8 : Int32) (S : ZS) (C T : Nat) : Prop :=
  g_X9_putApart_116 Pw self12 x0 x1 x2 x3 x4 x5 x6 x8 (1 : Int32) S (C) (T)

set_option maxRecDepth 100000 in
set_option maxHeartbeats 4000000 in
theorem w_X9_putApart_111 {p : Program} {l : Launch} {e : Env} {s : State} {m : MethodId} {args : Array Value} {below : List Frame} {meth : Method} {c : Code} {Q : State → Prop} {D : va_G} {y : Nat → ClassId} {A0 : Nat → Prop} {kc kt : Nat} {Pw : Int32 → ZS → Prop} (X : CallFix p m c cX9_putApart 9 s args wsX9_putApart RX9) (hret : zQv p l e ({ frames := 3, cells := kc, slots := kt, locals := 106 } : Room) s m args below meth c Q cX9_putApart D y A0 Pw) {self12 : Nat → Nat → Int32 → Int32 → Nat → Int32 → Int32 → Int32 → Int32 → ZS → Nat → Nat → Prop} (hself12 : ∀ (x0 : Nat) (x1 : Nat) (x2 : Int32) (x3 : Int32) (x4 : Nat) (x5 : Int32) (x6 : Int32) (x7 : Int32) (x8 : Int32) (S : ZS) (C T : Nat) (H : Heap) (locs : List Loc) (ls : Array Slot), self12 x0 x1 x2 x3 x4 x5 x6 x7 x8 S C T → C ≤ kc ∧ T ≤ kt → zH D y A0 s H locs S → lv_has ls 9 [(0, .ref (zh y x0)), (1, .ref (zh y x1)), (2, .int x2), (3, .int x3), (4, .ref (zh y x4)), (5, .int x5), (6, .int x6), (7, .int x7), (8, .int x8)] → W p l e ({ frames := 3, cells := kc, slots := kt, locals := 106 } : Room) s m args below meth c H locs (kc - C) (kt - T) Q (F0 m 12 ls [])) {x0 : Nat} {x1 : Nat} {x2 : Int32} {x3 : Int32} {x4 : Nat} {x5 : Int32} {x6 : Int32} {x8 : Int32} {S : ZS} {C T : Nat} {H : Heap} {locs : List Loc} {ls : Array Slot} (hf : g_X9_putApart_111 Pw self12 x0 x1 x2 x3 x4 x5 x6 x8 S C T) (hCT : C ≤ kc ∧ T ≤ kt) (hM : zH D y A0 s H locs S) (hl : lv_has ls 9 [(0, .ref (zh y x0)), (1, .ref (zh y x1)), (2, .int x2), (3, .int x3), (4, .ref (zh y x4)), (5, .int x5), (6, .int x6), (8, .int x8)]) : W p l e ({ frames := 3, cells := kc, slots := kt, locals := 106 } : Room) s m args below meth c H locs (kc - C) (kt - T) Q (F0 m 111 ls []) := by
  obtain ⟨hx, hb, hml, hown, hts⟩ := id X
  unfold g_X9_putApart_111 at hf
  refine lv_iconst (v := (1 : Int32)) hx hb dX9_putApart_111 (by decide) ?_
  refine lv_goto (tgt := 116) hx hb dX9_putApart_112 (by decide) ?_
  exact w_X9_putApart_116 (x0 := x0) (x1 := x1) (x2 := x2) (x3 := x3) (x4 := x4) (x5 := x5) (x6 := x6) (x8 := x8) (t0 := (1 : Int32)) X hret hself12 hf hCT hM (lv_sub hl [0, 1, 2, 3, 4, 5, 6, 7] rfl)
noncomputable def g_X9_putApart_94 (Pw : Int32 → ZS → Prop) (self12 : Nat → Nat → Int32 → Int32 → Nat → Int32 → Int32 → Int32 → Int32 → ZS → Nat → Nat → Prop) (x0 : Nat) (x1 : Nat) (x2 : Int32) (x3 : Int32) (x4 : Nat) (x5 : Int32) (x7 : Int32) (x8 : Int32) (t0 : Int32) (S : ZS) (C T : Nat) : Prop :=
  m_ifQ (x7 = 0) (
  m_bndP (x8 >>> ((3 : Int32) &&& 31)) (fun v1 =>
  m_bndP (x2 >>> ((3 : Int32) &&& 31)) (fun v2 =>
  m_ifQ (v1 = v2) (
  g_X9_putApart_111 Pw self12 x0 x1 x2 x3 x4 x5 t0 x8 S (C) (T)
  ) (
  g_X9_putApart_116 Pw self12 x0 x1 x2 x3 x4 x5 t0 x8 (0 : Int32) S (C) (T)
  )))
  ) (
  g_X9_putApart_111 Pw self12 x0 x1 x2 x3 x4 x5 t0 x8 S (C) (T)
  )

set_option maxRecDepth 100000 in
set_option maxHeartbeats 4000000 in
theorem w_X9_putApart_94 {p : Program} {l : Launch} {e : Env} {s : State} {m : MethodId} {args : Array Value} {below : List Frame} {meth : Method} {c : Code} {Q : State → Prop} {D : va_G} {y : Nat → ClassId} {A0 : Nat → Prop} {kc kt : Nat} {Pw : Int32 → ZS → Prop} (X : CallFix p m c cX9_putApart 9 s args wsX9_putApart RX9) (hret : zQv p l e ({ frames := 3, cells := kc, slots := kt, locals := 106 } : Room) s m args below meth c Q cX9_putApart D y A0 Pw) {self12 : Nat → Nat → Int32 → Int32 → Nat → Int32 → Int32 → Int32 → Int32 → ZS → Nat → Nat → Prop} (hself12 : ∀ (x0 : Nat) (x1 : Nat) (x2 : Int32) (x3 : Int32) (x4 : Nat) (x5 : Int32) (x6 : Int32) (x7 : Int32) (x8 : Int32) (S : ZS) (C T : Nat) (H : Heap) (locs : List Loc) (ls : Array Slot), self12 x0 x1 x2 x3 x4 x5 x6 x7 x8 S C T → C ≤ kc ∧ T ≤ kt → zH D y A0 s H locs S → lv_has ls 9 [(0, .ref (zh y x0)), (1, .ref (zh y x1)), (2, .int x2), (3, .int x3), (4, .ref (zh y x4)), (5, .int x5), (6, .int x6), (7, .int x7), (8, .int x8)] → W p l e ({ frames := 3, cells := kc, slots := kt, locals := 106 } : Room) s m args below meth c H locs (kc - C) (kt - T) Q (F0 m 12 ls [])) {x0 : Nat} {x1 : Nat} {x2 : Int32} {x3 : Int32} {x4 : Nat} {x5 : Int32} {x7 : Int32} {x8 : Int32} {t0 : Int32} {S : ZS} {C T : Nat} {H : Heap} {locs : List Loc} {ls : Array Slot} (hf : g_X9_putApart_94 Pw self12 x0 x1 x2 x3 x4 x5 x7 x8 t0 S C T) (hCT : C ≤ kc ∧ T ≤ kt) (hM : zH D y A0 s H locs S) (hl : lv_has ls 9 [(0, .ref (zh y x0)), (1, .ref (zh y x1)), (2, .int x2), (3, .int x3), (4, .ref (zh y x4)), (5, .int x5), (7, .int x7), (8, .int x8)]) : W p l e ({ frames := 3, cells := kc, slots := kt, locals := 106 } : Room) s m args below meth c H locs (kc - C) (kt - T) Q (F0 m 94 ls [.int t0]) := by
  obtain ⟨hx, hb, hml, hown, hts⟩ := id X
  unfold g_X9_putApart_94 at hf
  refine lv_istore (lv' := [(6, .int t0), (0, .ref (zh y x0)), (1, .ref (zh y x1)), (2, .int x2), (3, .int x3), (4, .ref (zh y x4)), (5, .int x5), (7, .int x7), (8, .int x8)]) hx hb dX9_putApart_94 hl (by decide) rfl (fun ls hl => ?_)
  refine lv_iload hx hb dX9_putApart_96 (lv_at hl 7 rfl) ?_
  refine lv_if_ne (tgt := 111) hx hb dX9_putApart_98 (by decide) (fun cc1 => ?_) (fun cc1 => ?_)
  · replace hf := m_ifPF hf cc1
    exact w_X9_putApart_111 (x0 := x0) (x1 := x1) (x2 := x2) (x3 := x3) (x4 := x4) (x5 := x5) (x6 := t0) (x8 := x8) X hret hself12 hf hCT hM (lv_sub hl [1, 2, 3, 4, 5, 6, 0, 8] rfl)
  · replace hf := m_ifPT hf cc1
    refine lv_iload hx hb dX9_putApart_101 (lv_at hl 8 rfl) ?_
    refine lv_iconst (v := (3 : Int32)) hx hb dX9_putApart_103 (by decide) ?_
    refine lv_ishr hx hb dX9_putApart_104 ?_
    obtain ⟨v1, ev, hf⟩ := m_bndPE hf
    refine m_top ev ?_
    clear ev
    refine lv_iload_n hx hb dX9_putApart_105 rfl (lv_at hl 3 rfl) ?_
    refine lv_iconst (v := (3 : Int32)) hx hb dX9_putApart_106 (by decide) ?_
    refine lv_ishr hx hb dX9_putApart_107 ?_
    obtain ⟨v2, ev, hf⟩ := m_bndPE hf
    refine m_top ev ?_
    clear ev
    refine lv_icmp_ne (tgt := 115) hx hb dX9_putApart_108 (by decide) (fun cc1 => ?_) (fun cc1 => ?_)
    · replace hf := m_ifPF hf cc1
      refine lv_iconst (v := (0 : Int32)) hx hb dX9_putApart_115 (by decide) ?_
      exact w_X9_putApart_116 (x0 := x0) (x1 := x1) (x2 := x2) (x3 := x3) (x4 := x4) (x5 := x5) (x6 := t0) (x8 := x8) (t0 := (0 : Int32)) X hret hself12 hf hCT hM (lv_sub hl [1, 2, 3, 4, 5, 6, 0, 8] rfl)
    · replace hf := m_ifPT hf cc1
      exact w_X9_putApart_111 (x0 := x0) (x1 := x1) (x2 := x2) (x3 := x3) (x4 := x4) (x5 := x5) (x6 := t0) (x8 := x8) X hret hself12 hf hCT hM (lv_sub hl [1, 2, 3, 4, 5, 6, 0, 8] rfl)
noncomputable def g_X9_putApart_89 (Pw : Int32 → ZS → Prop) (self12 : Nat → Nat → Int32 → Int32 → Nat → Int32 → Int32 → Int32 → Int32 → ZS → Nat → Nat → Prop) (x0 : Nat) (x1 : Nat) (x2 : Int32) (x3 : Int32) (x4 : Nat) (x5 : Int32) (x7 : Int32) (x8 : Int32) (S : ZS) (C T : Nat) : Prop :=
  g_X9_putApart_94 Pw self12 x0 x1 x2 x3 x4 x5 x7 x8 (1 : Int32) S (C) (T)

set_option maxRecDepth 100000 in
set_option maxHeartbeats 4000000 in
theorem w_X9_putApart_89 {p : Program} {l : Launch} {e : Env} {s : State} {m : MethodId} {args : Array Value} {below : List Frame} {meth : Method} {c : Code} {Q : State → Prop} {D : va_G} {y : Nat → ClassId} {A0 : Nat → Prop} {kc kt : Nat} {Pw : Int32 → ZS → Prop} (X : CallFix p m c cX9_putApart 9 s args wsX9_putApart RX9) (hret : zQv p l e ({ frames := 3, cells := kc, slots := kt, locals := 106 } : Room) s m args below meth c Q cX9_putApart D y A0 Pw) {self12 : Nat → Nat → Int32 → Int32 → Nat → Int32 → Int32 → Int32 → Int32 → ZS → Nat → Nat → Prop} (hself12 : ∀ (x0 : Nat) (x1 : Nat) (x2 : Int32) (x3 : Int32) (x4 : Nat) (x5 : Int32) (x6 : Int32) (x7 : Int32) (x8 : Int32) (S : ZS) (C T : Nat) (H : Heap) (locs : List Loc) (ls : Array Slot), self12 x0 x1 x2 x3 x4 x5 x6 x7 x8 S C T → C ≤ kc ∧ T ≤ kt → zH D y A0 s H locs S → lv_has ls 9 [(0, .ref (zh y x0)), (1, .ref (zh y x1)), (2, .int x2), (3, .int x3), (4, .ref (zh y x4)), (5, .int x5), (6, .int x6), (7, .int x7), (8, .int x8)] → W p l e ({ frames := 3, cells := kc, slots := kt, locals := 106 } : Room) s m args below meth c H locs (kc - C) (kt - T) Q (F0 m 12 ls [])) {x0 : Nat} {x1 : Nat} {x2 : Int32} {x3 : Int32} {x4 : Nat} {x5 : Int32} {x7 : Int32} {x8 : Int32} {S : ZS} {C T : Nat} {H : Heap} {locs : List Loc} {ls : Array Slot} (hf : g_X9_putApart_89 Pw self12 x0 x1 x2 x3 x4 x5 x7 x8 S C T) (hCT : C ≤ kc ∧ T ≤ kt) (hM : zH D y A0 s H locs S) (hl : lv_has ls 9 [(0, .ref (zh y x0)), (1, .ref (zh y x1)), (2, .int x2), (3, .int x3), (4, .ref (zh y x4)), (5, .int x5), (7, .int x7), (8, .int x8)]) : W p l e ({ frames := 3, cells := kc, slots := kt, locals := 106 } : Room) s m args below meth c H locs (kc - C) (kt - T) Q (F0 m 89 ls []) := by
  obtain ⟨hx, hb, hml, hown, hts⟩ := id X
  unfold g_X9_putApart_89 at hf
  refine lv_iconst (v := (1 : Int32)) hx hb dX9_putApart_89 (by decide) ?_
  refine lv_goto (tgt := 94) hx hb dX9_putApart_90 (by decide) ?_
  exact w_X9_putApart_94 (x0 := x0) (x1 := x1) (x2 := x2) (x3 := x3) (x4 := x4) (x5 := x5) (x7 := x7) (x8 := x8) (t0 := (1 : Int32)) X hret hself12 hf hCT hM (lv_sub hl [0, 1, 2, 3, 4, 5, 6, 7] rfl)
noncomputable def g_X9_putApart_12s (Pw : Int32 → ZS → Prop) (self12 : Nat → Nat → Int32 → Int32 → Nat → Int32 → Int32 → Int32 → Int32 → ZS → Nat → Nat → Prop) (x0 : Nat) (x1 : Nat) (x2 : Int32) (x3 : Int32) (x4 : Nat) (x5 : Int32) (x6 : Int32) (x7 : Int32) (x8 : Int32) (S : ZS) (C T : Nat) : Prop :=
  m_ifQ ((64 : Int32) ≤ x8) (
  m_ifQ (x5 = 0) (
  g_X9_putApart_148 Pw x2 x4 x6 S (C) (T)
  ) (
  m_ifQ (x6 = 0) (
  g_X9_putApart_139 Pw x2 x4 x6 S (C) (T)
  ) (
  m_ifQ (x7 = 0) (
  g_X9_putApart_148 Pw x2 x4 x6 S (C) (T)
  ) (
  g_X9_putApart_139 Pw x2 x4 x6 S (C) (T)
  )
  )
  )
  ) (
  m_ifQ (x8 = x2) (
  g_X9_putApart_118 Pw self12 x0 x1 x2 x3 x4 x5 x6 x7 x8 S (C) (T)
  ) (
  m_chkQ (zK S x1 = 0) (
  m_calP (zP S 0 x1) (fun b1 =>
  m_chkQ (zK S b1 = 14) (
  m_chkQ (¬ (x8 < 0 ∨ zN S b1 ≤ (x8).toNatClampNeg)) (
  m_bndP (zA S b1 (x8).toNatClampNeg) (fun v2 =>
  m_chkQ (zK S x1 = 0) (
  m_calP (zP S 0 x1) (fun b3 =>
  m_chkQ (zK S b3 = 14) (
  m_chkQ (¬ (x2 < 0 ∨ zN S b3 ≤ (x2).toNatClampNeg)) (
  m_bndP (zA S b3 (x2).toNatClampNeg) (fun v4 =>
  m_ifQ (v2 = v4) (
  m_chkQ (zK S x1 = 0) (
  m_calP (f_X0_reaches x1 x8 x3 S) (fun o5 =>
  m_ifQ (o5.1 = 0) (
  g_X9_putApart_118 Pw self12 x0 x1 x2 x3 x4 x5 x6 x7 x8 o5.2 (C) (T)
  ) (
  m_chkQ (zK o5.2 x0 = 9) (
  m_calP (zP o5.2 0 x0) (fun b6 =>
  m_bndP ((64 : Int32) * x3) (fun v7 =>
  m_bndP (x8 + v7) (fun v8 =>
  m_chkQ (zK o5.2 b6 = 7) (
  m_calP (f_X7_isSafe b6 x1 v8 o5.2) (fun o9 =>
  m_ifQ (o9.1 = 0) (
  g_X9_putApart_118 Pw self12 x0 x1 x2 x3 x4 x5 x6 x7 x8 o9.2 (C) (T)
  ) (
  m_ifQ (x6 = 0) (
  m_bndP (x8 &&& (7 : Int32)) (fun v10 =>
  m_bndP (x2 &&& (7 : Int32)) (fun v11 =>
  m_ifQ (v10 = v11) (
  g_X9_putApart_89 Pw self12 x0 x1 x2 x3 x4 (1 : Int32) x7 x8 o9.2 (C) (T)
  ) (
  g_X9_putApart_94 Pw self12 x0 x1 x2 x3 x4 (1 : Int32) x7 x8 (0 : Int32) o9.2 (C) (T)
  )))
  ) (
  g_X9_putApart_89 Pw self12 x0 x1 x2 x3 x4 (1 : Int32) x7 x8 o9.2 (C) (T)
  )
  )))))))
  )))
  ) (
  g_X9_putApart_118 Pw self12 x0 x1 x2 x3 x4 x5 x6 x7 x8 S (C) (T)
  )))))))))))
  )
  )

set_option maxRecDepth 100000 in
set_option maxHeartbeats 4000000 in
theorem ws_X9_putApart_12 {p : Program} {l : Launch} {e : Env} {s : State} {m : MethodId} {args : Array Value} {below : List Frame} {meth : Method} {c : Code} {Q : State → Prop} {D : va_G} {y : Nat → ClassId} {A0 : Nat → Prop} {kc kt : Nat} {Pw : Int32 → ZS → Prop} (X : CallFix p m c cX9_putApart 9 s args wsX9_putApart RX9) (hret : zQv p l e ({ frames := 3, cells := kc, slots := kt, locals := 106 } : Room) s m args below meth c Q cX9_putApart D y A0 Pw) {self12 : Nat → Nat → Int32 → Int32 → Nat → Int32 → Int32 → Int32 → Int32 → ZS → Nat → Nat → Prop} (hself12 : ∀ (x0 : Nat) (x1 : Nat) (x2 : Int32) (x3 : Int32) (x4 : Nat) (x5 : Int32) (x6 : Int32) (x7 : Int32) (x8 : Int32) (S : ZS) (C T : Nat) (H : Heap) (locs : List Loc) (ls : Array Slot), self12 x0 x1 x2 x3 x4 x5 x6 x7 x8 S C T → C ≤ kc ∧ T ≤ kt → zH D y A0 s H locs S → lv_has ls 9 [(0, .ref (zh y x0)), (1, .ref (zh y x1)), (2, .int x2), (3, .int x3), (4, .ref (zh y x4)), (5, .int x5), (6, .int x6), (7, .int x7), (8, .int x8)] → W p l e ({ frames := 3, cells := kc, slots := kt, locals := 106 } : Room) s m args below meth c H locs (kc - C) (kt - T) Q (F0 m 12 ls [])) {x0 : Nat} {x1 : Nat} {x2 : Int32} {x3 : Int32} {x4 : Nat} {x5 : Int32} {x6 : Int32} {x7 : Int32} {x8 : Int32} {S : ZS} {C T : Nat} {H : Heap} {locs : List Loc} {ls : Array Slot} (hf : g_X9_putApart_12s Pw self12 x0 x1 x2 x3 x4 x5 x6 x7 x8 S C T) (hCT : C ≤ kc ∧ T ≤ kt) (hM : zH D y A0 s H locs S) (hl : lv_has ls 9 [(0, .ref (zh y x0)), (1, .ref (zh y x1)), (2, .int x2), (3, .int x3), (4, .ref (zh y x4)), (5, .int x5), (6, .int x6), (7, .int x7), (8, .int x8)]) : W p l e ({ frames := 3, cells := kc, slots := kt, locals := 106 } : Room) s m args below meth c H locs (kc - C) (kt - T) Q (F0 m 12 ls []) := by
  obtain ⟨hx, hb, hml, hown, hts⟩ := id X
  unfold g_X9_putApart_12s at hf
  refine lv_iload hx hb dX9_putApart_12 (lv_at hl 8 rfl) ?_
  refine lv_bipush (v := (64 : Int32)) hx hb dX9_putApart_14 (by decide) ?_
  refine lv_icmp_ge (tgt := 124) hx hb dX9_putApart_16 (by decide) (fun cc1 => ?_) (fun cc1 => ?_)
  · replace hf := m_ifPT hf cc1
    refine lv_iload hx hb dX9_putApart_124 (lv_at hl 5 rfl) ?_
    refine lv_if_eq (tgt := 148) hx hb dX9_putApart_126 (by decide) (fun cc1 => ?_) (fun cc1 => ?_)
    · replace hf := m_ifPT hf cc1
      exact w_X9_putApart_148 (x2 := x2) (x4 := x4) (x6 := x6) X hret hf hCT hM (lv_sub hl [2, 4, 6] rfl)
    · replace hf := m_ifPF hf cc1
      refine lv_iload hx hb dX9_putApart_129 (lv_at hl 6 rfl) ?_
      refine lv_if_eq (tgt := 139) hx hb dX9_putApart_131 (by decide) (fun cc1 => ?_) (fun cc1 => ?_)
      · replace hf := m_ifPT hf cc1
        exact w_X9_putApart_139 (x2 := x2) (x4 := x4) (x6 := x6) X hret hf hCT hM (lv_sub hl [2, 4, 6] rfl)
      · replace hf := m_ifPF hf cc1
        refine lv_iload hx hb dX9_putApart_134 (lv_at hl 7 rfl) ?_
        refine lv_if_eq (tgt := 148) hx hb dX9_putApart_136 (by decide) (fun cc1 => ?_) (fun cc1 => ?_)
        · replace hf := m_ifPT hf cc1
          exact w_X9_putApart_148 (x2 := x2) (x4 := x4) (x6 := x6) X hret hf hCT hM (lv_sub hl [2, 4, 6] rfl)
        · replace hf := m_ifPF hf cc1
          exact w_X9_putApart_139 (x2 := x2) (x4 := x4) (x6 := x6) X hret hf hCT hM (lv_sub hl [2, 4, 6] rfl)
  · replace hf := m_ifPF hf cc1
    refine lv_iload hx hb dX9_putApart_19 (lv_at hl 8 rfl) ?_
    refine lv_iload_n hx hb dX9_putApart_21 rfl (lv_at hl 2 rfl) ?_
    refine lv_icmp_eq (tgt := 118) hx hb dX9_putApart_22 (by decide) (fun cc1 => ?_) (fun cc1 => ?_)
    · replace hf := m_ifPT hf cc1
      exact w_X9_putApart_118 (x0 := x0) (x1 := x1) (x2 := x2) (x3 := x3) (x4 := x4) (x5 := x5) (x6 := x6) (x7 := x7) (x8 := x8) X hret hself12 hf hCT hM (lv_sub hl [0, 1, 2, 3, 4, 5, 6, 7, 8] rfl)
    · replace hf := m_ifPF hf cc1
      refine lv_aload_n hx hb dX9_putApart_25 rfl (lv_at hl 1 rfl) ?_
      obtain ⟨ca, hf⟩ := m_chkPE hf
      replace ca := z_in hM (by decide) ca
      refine z_get (k := 0) (j := 0) (C := RX0) (T := TX0) (N := 7) (fl := zf_0) (v := va_rf ((zP S 0 x1).map (zh y))) X hw_X9_putApart_0 hM rfl zc_0 ca (by decide) fl_X9_putApart_0_0 rfl dX9_putApart_26 ?_
      clear ca
      obtain ⟨b1, hb9, hf⟩ := m_calPE hf
      refine z_topr hb9 ?_
      clear hb9
      refine lv_iload hx hb dX9_putApart_29 (lv_at hl 8 rfl) ?_
      obtain ⟨ca, hf⟩ := m_chkPE hf
      replace ca := z_in hM (by decide) ca
      obtain ⟨cd, hf⟩ := m_chkPE hf
      refine z_iald X hM ca cd dX9_putApart_31 ?_
      clear ca cd
      obtain ⟨v2, ev, hf⟩ := m_bndPE hf
      refine m_top ev ?_
      clear ev
      refine lv_aload_n hx hb dX9_putApart_32 rfl (lv_at hl 1 rfl) ?_
      obtain ⟨ca, hf⟩ := m_chkPE hf
      replace ca := z_in hM (by decide) ca
      refine z_get (k := 0) (j := 0) (C := RX0) (T := TX0) (N := 7) (fl := zf_0) (v := va_rf ((zP S 0 x1).map (zh y))) X hw_X9_putApart_0 hM rfl zc_0 ca (by decide) fl_X9_putApart_0_0 rfl dX9_putApart_33 ?_
      clear ca
      obtain ⟨b3, hb9, hf⟩ := m_calPE hf
      refine z_topr hb9 ?_
      clear hb9
      refine lv_iload_n hx hb dX9_putApart_36 rfl (lv_at hl 2 rfl) ?_
      obtain ⟨ca, hf⟩ := m_chkPE hf
      replace ca := z_in hM (by decide) ca
      obtain ⟨cd, hf⟩ := m_chkPE hf
      refine z_iald X hM ca cd dX9_putApart_37 ?_
      clear ca cd
      obtain ⟨v4, ev, hf⟩ := m_bndPE hf
      refine m_top ev ?_
      clear ev
      refine lv_icmp_ne (tgt := 118) hx hb dX9_putApart_38 (by decide) (fun cc1 => ?_) (fun cc1 => ?_)
      · replace hf := m_ifPF hf cc1
        exact w_X9_putApart_118 (x0 := x0) (x1 := x1) (x2 := x2) (x3 := x3) (x4 := x4) (x5 := x5) (x6 := x6) (x7 := x7) (x8 := x8) X hret hself12 hf hCT hM (lv_sub hl [0, 1, 2, 3, 4, 5, 6, 7, 8] rfl)
      · replace hf := m_ifPT hf cc1
        refine lv_aload_n hx hb dX9_putApart_41 rfl (lv_at hl 1 rfl) ?_
        refine lv_iload hx hb dX9_putApart_42 (lv_at hl 8 rfl) ?_
        refine lv_iload_n hx hb dX9_putApart_44 rfl (lv_at hl 3 rfl) ?_
        obtain ⟨ca, hf⟩ := m_chkPE hf
        replace ca := z_in hM (by decide) ca
        obtain ⟨o5, ho, hf⟩ := m_calPE hf
        refine z_gcallVi (k := 0) (C := RX0) (T := TX0) (N := 7) (fl := zf_0) X hM rfl zc_0 ca (c_X0_reaches ho) gX9_putApart_X0_reaches rfl ⟨rfl, rfl⟩ hd_X0_reaches ⟨Nat.le_of_ble_eq_true rfl, Nat.le_of_ble_eq_true rfl⟩ rfl hl.1 rfl ⟨Nat.sub_le _ _, Nat.sub_le _ _⟩ (Nat.le_of_ble_eq_true rfl) dX9_putApart_45 (fun H locs hM => ?_)
        clear ho
        refine lv_if_eq (tgt := 118) hx hb dX9_putApart_48 (by decide) (fun cc1 => ?_) (fun cc1 => ?_)
        · replace hf := m_ifPT hf cc1
          exact w_X9_putApart_118 (x0 := x0) (x1 := x1) (x2 := x2) (x3 := x3) (x4 := x4) (x5 := x5) (x6 := x6) (x7 := x7) (x8 := x8) X hret hself12 hf hCT hM (lv_sub hl [0, 1, 2, 3, 4, 5, 6, 7, 8] rfl)
        · replace hf := m_ifPF hf cc1
          refine lv_aload_n hx hb dX9_putApart_51 rfl (lv_at hl 0 rfl) ?_
          obtain ⟨ca, hf⟩ := m_chkPE hf
          replace ca := z_in hM (by decide) ca
          refine z_get (k := 9) (j := 0) (C := RX9) (T := TX9) (N := 1) (fl := zf_9) (v := va_rf ((zP o5.2 0 x0).map (zh y))) X hw_X9_putApart_9 hM rfl zc_9 ca (by decide) fl_X9_putApart_9_0 rfl dX9_putApart_52 ?_
          clear ca
          obtain ⟨b6, hb9, hf⟩ := m_calPE hf
          refine z_topr hb9 ?_
          clear hb9
          refine lv_aload_n hx hb dX9_putApart_55 rfl (lv_at hl 1 rfl) ?_
          refine lv_iload hx hb dX9_putApart_56 (lv_at hl 8 rfl) ?_
          refine lv_bipush (v := (64 : Int32)) hx hb dX9_putApart_58 (by decide) ?_
          refine lv_iload_n hx hb dX9_putApart_60 rfl (lv_at hl 3 rfl) ?_
          refine lv_imul hx hb dX9_putApart_61 ?_
          obtain ⟨v7, ev, hf⟩ := m_bndPE hf
          refine m_top ev ?_
          clear ev
          refine lv_iadd hx hb dX9_putApart_62 ?_
          obtain ⟨v8, ev, hf⟩ := m_bndPE hf
          refine m_top ev ?_
          clear ev
          obtain ⟨ca, hf⟩ := m_chkPE hf
          replace ca := z_in hM (by decide) ca
          obtain ⟨o9, ho, hf⟩ := m_calPE hf
          refine z_gcallVi (k := 7) (C := RX7) (T := TX7) (N := 2) (fl := zf_7) X hM rfl zc_7 ca (c_X7_isSafe ho) gX9_putApart_X7_isSafe rfl ⟨rfl, rfl⟩ hd_X7_isSafe ⟨Nat.le_of_ble_eq_true rfl, Nat.le_of_ble_eq_true rfl⟩ rfl hl.1 rfl ⟨Nat.sub_le _ _, Nat.sub_le _ _⟩ (Nat.le_of_ble_eq_true rfl) dX9_putApart_63 (fun H locs hM => ?_)
          clear ho
          refine lv_if_eq (tgt := 118) hx hb dX9_putApart_66 (by decide) (fun cc1 => ?_) (fun cc1 => ?_)
          · replace hf := m_ifPT hf cc1
            exact w_X9_putApart_118 (x0 := x0) (x1 := x1) (x2 := x2) (x3 := x3) (x4 := x4) (x5 := x5) (x6 := x6) (x7 := x7) (x8 := x8) X hret hself12 hf hCT hM (lv_sub hl [0, 1, 2, 3, 4, 5, 6, 7, 8] rfl)
          · replace hf := m_ifPF hf cc1
            refine lv_iconst (v := (1 : Int32)) hx hb dX9_putApart_69 (by decide) ?_
            refine lv_istore (lv' := [(5, .int (1 : Int32)), (0, .ref (zh y x0)), (1, .ref (zh y x1)), (2, .int x2), (3, .int x3), (4, .ref (zh y x4)), (6, .int x6), (7, .int x7), (8, .int x8)]) hx hb dX9_putApart_70 hl (by decide) rfl (fun ls hl => ?_)
            refine lv_iload hx hb dX9_putApart_72 (lv_at hl 6 rfl) ?_
            refine lv_if_ne (tgt := 89) hx hb dX9_putApart_74 (by decide) (fun cc1 => ?_) (fun cc1 => ?_)
            · replace hf := m_ifPF hf cc1
              exact w_X9_putApart_89 (x0 := x0) (x1 := x1) (x2 := x2) (x3 := x3) (x4 := x4) (x5 := (1 : Int32)) (x7 := x7) (x8 := x8) X hret hself12 hf hCT hM (lv_sub hl [1, 2, 3, 4, 5, 0, 7, 8] rfl)
            · replace hf := m_ifPT hf cc1
              refine lv_iload hx hb dX9_putApart_77 (lv_at hl 8 rfl) ?_
              refine lv_bipush (v := (7 : Int32)) hx hb dX9_putApart_79 (by decide) ?_
              refine lv_iand hx hb dX9_putApart_81 ?_
              obtain ⟨v10, ev, hf⟩ := m_bndPE hf
              refine m_top ev ?_
              clear ev
              refine lv_iload_n hx hb dX9_putApart_82 rfl (lv_at hl 3 rfl) ?_
              refine lv_bipush (v := (7 : Int32)) hx hb dX9_putApart_83 (by decide) ?_
              refine lv_iand hx hb dX9_putApart_85 ?_
              obtain ⟨v11, ev, hf⟩ := m_bndPE hf
              refine m_top ev ?_
              clear ev
              refine lv_icmp_ne (tgt := 93) hx hb dX9_putApart_86 (by decide) (fun cc1 => ?_) (fun cc1 => ?_)
              · replace hf := m_ifPF hf cc1
                refine lv_iconst (v := (0 : Int32)) hx hb dX9_putApart_93 (by decide) ?_
                exact w_X9_putApart_94 (x0 := x0) (x1 := x1) (x2 := x2) (x3 := x3) (x4 := x4) (x5 := (1 : Int32)) (x7 := x7) (x8 := x8) (t0 := (0 : Int32)) X hret hself12 hf hCT hM (lv_sub hl [1, 2, 3, 4, 5, 0, 7, 8] rfl)
              · replace hf := m_ifPT hf cc1
                exact w_X9_putApart_89 (x0 := x0) (x1 := x1) (x2 := x2) (x3 := x3) (x4 := x4) (x5 := (1 : Int32)) (x7 := x7) (x8 := x8) X hret hself12 hf hCT hM (lv_sub hl [1, 2, 3, 4, 5, 0, 7, 8] rfl)
noncomputable def g_X9_putApart_12 (Pw : Int32 → ZS → Prop) : Nat → Nat → Nat → Int32 → Int32 → Nat → Int32 → Int32 → Int32 → Int32 → ZS → Nat → Nat → Prop
  | 0 => fun _ _ _ _ _ _ _ _ _ _ _ _ => False
  | n + 1 => g_X9_putApart_12s Pw (g_X9_putApart_12 Pw n)
theorem w_X9_putApart_12 {p : Program} {l : Launch} {e : Env} {s : State} {m : MethodId} {args : Array Value} {below : List Frame} {meth : Method} {c : Code} {Q : State → Prop} {D : va_G} {y : Nat → ClassId} {A0 : Nat → Prop} {kc kt : Nat} {Pw : Int32 → ZS → Prop} (X : CallFix p m c cX9_putApart 9 s args wsX9_putApart RX9) (hret : zQv p l e ({ frames := 3, cells := kc, slots := kt, locals := 106 } : Room) s m args below meth c Q cX9_putApart D y A0 Pw) (n : Nat) : ∀ (x0 : Nat) (x1 : Nat) (x2 : Int32) (x3 : Int32) (x4 : Nat) (x5 : Int32) (x6 : Int32) (x7 : Int32) (x8 : Int32) (S : ZS) (C T : Nat) (H : Heap) (locs : List Loc) (ls : Array Slot), g_X9_putApart_12 Pw n x0 x1 x2 x3 x4 x5 x6 x7 x8 S C T → C ≤ kc ∧ T ≤ kt → zH D y A0 s H locs S → lv_has ls 9 [(0, .ref (zh y x0)), (1, .ref (zh y x1)), (2, .int x2), (3, .int x3), (4, .ref (zh y x4)), (5, .int x5), (6, .int x6), (7, .int x7), (8, .int x8)] → W p l e ({ frames := 3, cells := kc, slots := kt, locals := 106 } : Room) s m args below meth c H locs (kc - C) (kt - T) Q (F0 m 12 ls []) := by
  induction n with
  | zero => intro x0 x1 x2 x3 x4 x5 x6 x7 x8 S C T H locs ls hf; exact absurd hf id
  | succ n ih => intro x0 x1 x2 x3 x4 x5 x6 x7 x8 S C T H locs ls hf hCT hM hl; exact ws_X9_putApart_12 X hret (self12 := g_X9_putApart_12 Pw n) ih hf hCT hM hl
noncomputable def g_X9_putApart_0 (Pw : Int32 → ZS → Prop) (x0 : Nat) (x1 : Nat) (x2 : Int32) (x3 : Int32) (x4 : Nat) (S : ZS) (C T : Nat) : Prop :=
  g_X9_putApart_12 Pw mFuel x0 x1 x2 x3 x4 (0 : Int32) (0 : Int32) (0 : Int32) (0 : Int32) S (C) (T)

set_option maxRecDepth 100000 in
set_option maxHeartbeats 4000000 in
theorem w_X9_putApart_0 {p : Program} {l : Launch} {e : Env} {s : State} {m : MethodId} {args : Array Value} {below : List Frame} {meth : Method} {c : Code} {Q : State → Prop} {D : va_G} {y : Nat → ClassId} {A0 : Nat → Prop} {kc kt : Nat} {Pw : Int32 → ZS → Prop} (X : CallFix p m c cX9_putApart 9 s args wsX9_putApart RX9) (hret : zQv p l e ({ frames := 3, cells := kc, slots := kt, locals := 106 } : Room) s m args below meth c Q cX9_putApart D y A0 Pw) {x0 : Nat} {x1 : Nat} {x2 : Int32} {x3 : Int32} {x4 : Nat} {S : ZS} {C T : Nat} {H : Heap} {locs : List Loc} {ls : Array Slot} (hf : g_X9_putApart_0 Pw x0 x1 x2 x3 x4 S C T) (hCT : C ≤ kc ∧ T ≤ kt) (hM : zH D y A0 s H locs S) (hl : lv_has ls 9 [(0, .ref (zh y x0)), (1, .ref (zh y x1)), (2, .int x2), (3, .int x3), (4, .ref (zh y x4))]) : W p l e ({ frames := 3, cells := kc, slots := kt, locals := 106 } : Room) s m args below meth c H locs (kc - C) (kt - T) Q (F0 m 0 ls []) := by
  obtain ⟨hx, hb, hml, hown, hts⟩ := id X
  unfold g_X9_putApart_0 at hf
  refine lv_iconst (v := (0 : Int32)) hx hb dX9_putApart_0 (by decide) ?_
  refine lv_istore (lv' := [(5, .int (0 : Int32)), (0, .ref (zh y x0)), (1, .ref (zh y x1)), (2, .int x2), (3, .int x3), (4, .ref (zh y x4))]) hx hb dX9_putApart_1 hl (by decide) rfl (fun ls hl => ?_)
  refine lv_iconst (v := (0 : Int32)) hx hb dX9_putApart_3 (by decide) ?_
  refine lv_istore (lv' := [(6, .int (0 : Int32)), (5, .int (0 : Int32)), (0, .ref (zh y x0)), (1, .ref (zh y x1)), (2, .int x2), (3, .int x3), (4, .ref (zh y x4))]) hx hb dX9_putApart_4 hl (by decide) rfl (fun ls hl => ?_)
  refine lv_iconst (v := (0 : Int32)) hx hb dX9_putApart_6 (by decide) ?_
  refine lv_istore (lv' := [(7, .int (0 : Int32)), (6, .int (0 : Int32)), (5, .int (0 : Int32)), (0, .ref (zh y x0)), (1, .ref (zh y x1)), (2, .int x2), (3, .int x3), (4, .ref (zh y x4))]) hx hb dX9_putApart_7 hl (by decide) rfl (fun ls hl => ?_)
  refine lv_iconst (v := (0 : Int32)) hx hb dX9_putApart_9 (by decide) ?_
  refine lv_istore (lv' := [(8, .int (0 : Int32)), (7, .int (0 : Int32)), (6, .int (0 : Int32)), (5, .int (0 : Int32)), (0, .ref (zh y x0)), (1, .ref (zh y x1)), (2, .int x2), (3, .int x3), (4, .ref (zh y x4))]) hx hb dX9_putApart_10 hl (by decide) rfl (fun ls hl => ?_)
  exact w_X9_putApart_12 X hret _ x0 x1 x2 x3 x4 (0 : Int32) (0 : Int32) (0 : Int32) (0 : Int32) _ _ _ _ _ _ hf hCT hM (lv_sub hl [4, 5, 6, 7, 8, 3, 2, 1, 0] rfl)
noncomputable def g_X9_putApart (x0 : Nat) (x1 : Nat) (x2 : Int32) (x3 : Int32) (x4 : Nat) (S : ZS) (mc ms : Nat) (Pw : Int32 → ZS → Prop) : Prop := g_X9_putApart_0 Pw x0 x1 x2 x3 x4 S mc ms
theorem c_X9_putApart {l : Launch} {D : va_G} {y : Nat → ClassId} {x0 : Nat} {x1 : Nat} {x2 : Int32} {x3 : Int32} {x4 : Nat} {S : ZS} {kc kt : Nat} {Pw : Int32 → ZS → Prop} (hf : g_X9_putApart x0 x1 x2 x3 x4 S kc kt Pw) : zWv l yX9_putApart wsX9_putApart ({ frames := 3, cells := kc, slots := kt, locals := 106 } : Room) [.ref (zh y x0), .ref (zh y x1), .int x2, .int x3, .ref (zh y x4)] D y S kc kt Pw :=
  z_wentV (own := RX9) (cc := cX9_putApart) (maxL := 9) (by decide) rfl rfl (Nat.le_of_ble_eq_true rfl) ⟨rfl, rfl⟩ (fun p e s m args below meth c A0 Q H locs ls X hret hM hl => w_X9_putApart_0 X hret hf ⟨Nat.le_refl _, Nat.le_refl _⟩ hM (lv_sub hl [0, 1, 2, 3, 4] rfl))
theorem hd_X9_putSigns : yX9_putSigns.cls = RX9 ∧ yX9_putSigns.cls ≠ "java/lang/invoke/MethodHandle" ∧ yX9_putSigns.cls ≠ "java/lang/invoke/VarHandle" ∧ (parseMethodDescriptor yX9_putSigns.desc).map (fun d => d.parameters.length) = some 3 := by decide +kernel
theorem fl_X9_putSigns_9_0 : Cond.fieldLink RX9 12 "MoveTexts$SignWriter" "rules" "LMoveTexts$Rules;" ∈ wsX9_putSigns := by decide +kernel
theorem hw_X9_putSigns_9 : ∀ w ∈ wsX90, w ∈ wsX9_putSigns := by decide +kernel
theorem nn_X9_putSigns_41 : ((RX9, 41, yX11_letterOf, "MoveTexts") ∈ zNW ∧ Cond.initialized yX11_letterOf.cls ∈ wsX9_putSigns) ∧ Cond.static yX11_letterOf ∈ wsX9_putSigns := by decide +kernel
theorem nn_X9_putSigns_53 : ((RX9, 53, yX11_fileLetter, "MoveTexts") ∈ zNW ∧ Cond.initialized yX11_fileLetter.cls ∈ wsX9_putSigns) ∧ Cond.static yX11_fileLetter ∈ wsX9_putSigns := by decide +kernel
theorem nn_X9_putSigns_56 : ((RX9, 56, yX11_rankDigit, "MoveTexts") ∈ zNW ∧ Cond.initialized yX11_rankDigit.cls ∈ wsX9_putSigns) ∧ Cond.static yX11_rankDigit ∈ wsX9_putSigns := by decide +kernel
theorem sr_X9_putSigns_24 : (RX9, 24, "O-O", 7) ∈ zSR := by decide +kernel
theorem sr_X9_putSigns_26 : (RX9, 26, "O-O-O", 8) ∈ zSR := by decide +kernel
noncomputable def g_X9_putSigns_182 (Pw : Int32 → ZS → Prop) (S : ZS) (C T : Nat) : Prop :=
  Pw 0 S

set_option maxRecDepth 100000 in
set_option maxHeartbeats 4000000 in
theorem w_X9_putSigns_182 {p : Program} {l : Launch} {e : Env} {s : State} {m : MethodId} {args : Array Value} {below : List Frame} {meth : Method} {c : Code} {Q : State → Prop} {D : va_G} {y : Nat → ClassId} {A0 : Nat → Prop} {kc kt : Nat} {Pw : Int32 → ZS → Prop} (X : CallFix p m c cX9_putSigns 7 s args wsX9_putSigns RX9) (hret : zQv p l e ({ frames := 5, cells := kc, slots := kt, locals := 134 } : Room) s m args below meth c Q cX9_putSigns D y A0 Pw) {S : ZS} {C T : Nat} {H : Heap} {locs : List Loc} {ls : Array Slot} (hf : g_X9_putSigns_182 Pw  S C T) (hCT : C ≤ kc ∧ T ≤ kt) (hM : zH D y A0 s H locs S) (hl : lv_has ls 7 []) : W p l e ({ frames := 5, cells := kc, slots := kt, locals := 134 } : Room) s m args below meth c H locs (kc - C) (kt - T) Q (F0 m 182 ls []) := by
  obtain ⟨hx, hb, hml, hown, hts⟩ := id X
  unfold g_X9_putSigns_182 at hf
  exact hret _ _ _ H locs _ ls hf hM dX9_putSigns_182
noncomputable def g_X9_putSigns_160 (Pw : Int32 → ZS → Prop) (x0 : Nat) (x1 : Nat) (x2 : Int32) (x3 : Nat) (S : ZS) (C T : Nat) : Prop :=
  m_chkQ (zK S x0 = 9) (
  m_calP (zP S 0 x0) (fun b1 =>
  m_chkQ (zK S b1 = 7) (
  m_calP (f_X7_checkSign b1 x1 x2 S) (fun o2 =>
  m_ifQ (o2.1 = 0) (
  g_X9_putSigns_182 Pw  o2.2 (C) (T)
  ) (
  m_chkQ (zK o2.2 x3 = 6) (
  m_gal (C) (T) (fun mc ms Pw => g_X6_put x3 o2.1 o2.2 mc ms Pw) (fun r4 S5 C6 T7 =>
  g_X9_putSigns_182 Pw  S5 (C6) (T7)))
  )))))

set_option maxRecDepth 100000 in
set_option maxHeartbeats 4000000 in
theorem w_X9_putSigns_160 {p : Program} {l : Launch} {e : Env} {s : State} {m : MethodId} {args : Array Value} {below : List Frame} {meth : Method} {c : Code} {Q : State → Prop} {D : va_G} {y : Nat → ClassId} {A0 : Nat → Prop} {kc kt : Nat} {Pw : Int32 → ZS → Prop} (X : CallFix p m c cX9_putSigns 7 s args wsX9_putSigns RX9) (hret : zQv p l e ({ frames := 5, cells := kc, slots := kt, locals := 134 } : Room) s m args below meth c Q cX9_putSigns D y A0 Pw) {x0 : Nat} {x1 : Nat} {x2 : Int32} {x3 : Nat} {S : ZS} {C T : Nat} {H : Heap} {locs : List Loc} {ls : Array Slot} (hf : g_X9_putSigns_160 Pw x0 x1 x2 x3 S C T) (hCT : C ≤ kc ∧ T ≤ kt) (hM : zH D y A0 s H locs S) (hl : lv_has ls 7 [(0, .ref (zh y x0)), (1, .ref (zh y x1)), (2, .int x2), (3, .ref (zh y x3))]) : W p l e ({ frames := 5, cells := kc, slots := kt, locals := 134 } : Room) s m args below meth c H locs (kc - C) (kt - T) Q (F0 m 160 ls []) := by
  obtain ⟨hx, hb, hml, hown, hts⟩ := id X
  unfold g_X9_putSigns_160 at hf
  refine lv_aload_n hx hb dX9_putSigns_160 rfl (lv_at hl 0 rfl) ?_
  obtain ⟨ca, hf⟩ := m_chkPE hf
  replace ca := z_in hM (by decide) ca
  refine z_get (k := 9) (j := 0) (C := RX9) (T := TX9) (N := 1) (fl := zf_9) (v := va_rf ((zP S 0 x0).map (zh y))) X hw_X9_putSigns_9 hM rfl zc_9 ca (by decide) fl_X9_putSigns_9_0 rfl dX9_putSigns_161 ?_
  clear ca
  obtain ⟨b1, hb9, hf⟩ := m_calPE hf
  refine z_topr hb9 ?_
  clear hb9
  refine lv_aload_n hx hb dX9_putSigns_164 rfl (lv_at hl 1 rfl) ?_
  refine lv_iload_n hx hb dX9_putSigns_165 rfl (lv_at hl 2 rfl) ?_
  obtain ⟨ca, hf⟩ := m_chkPE hf
  replace ca := z_in hM (by decide) ca
  obtain ⟨o2, ho, hf⟩ := m_calPE hf
  refine z_gcallVi (k := 7) (C := RX7) (T := TX7) (N := 2) (fl := zf_7) X hM rfl zc_7 ca (c_X7_checkSign ho) gX9_putSigns_X7_checkSign rfl ⟨rfl, rfl⟩ hd_X7_checkSign ⟨Nat.le_of_ble_eq_true rfl, Nat.le_of_ble_eq_true rfl⟩ rfl hl.1 rfl ⟨Nat.sub_le _ _, Nat.sub_le _ _⟩ (Nat.le_of_ble_eq_true rfl) dX9_putSigns_166 (fun H locs hM => ?_)
  clear ho
  refine lv_istore (lv' := [(6, .int o2.1), (0, .ref (zh y x0)), (1, .ref (zh y x1)), (2, .int x2), (3, .ref (zh y x3))]) hx hb dX9_putSigns_169 hl (by decide) rfl (fun ls hl => ?_)
  refine lv_iload hx hb dX9_putSigns_171 (lv_at hl 0 rfl) ?_
  refine lv_if_eq (tgt := 182) hx hb dX9_putSigns_173 (by decide) (fun cc1 => ?_) (fun cc1 => ?_)
  · replace hf := m_ifPT hf cc1
    exact w_X9_putSigns_182 X hret hf hCT hM (lv_sub hl [] rfl)
  · replace hf := m_ifPF hf cc1
    refine lv_aload_n hx hb dX9_putSigns_176 rfl (lv_at hl 4 rfl) ?_
    refine lv_iload hx hb dX9_putSigns_177 (lv_at hl 0 rfl) ?_
    obtain ⟨ca, hf⟩ := m_chkPE hf
    replace ca := z_in hM (by decide) ca
    obtain ⟨mc, ms, hcm, ho⟩ := m_galE hf
    refine z_wcallVv (k := 6) (C := RX6) (T := TX6) (N := 2) (fl := zf_6) X hM rfl zc_6 ca (c_X6_put ho) gX9_putSigns_X6_put rfl ⟨rfl, rfl⟩ ⟨by show kc - (C) + mc ≤ kc; omega, by show kt - (T) + ms ≤ kt; omega⟩ hd_X6_put ⟨Nat.le_of_ble_eq_true rfl, Nat.le_of_ble_eq_true rfl⟩ rfl hl.1 rfl (Nat.le_of_ble_eq_true rfl) dX9_putSigns_179 (fun S5 H locs hf hM => ?_)
    refine z_eqCS (c2 := kc - (C - mc)) (t2 := kt - (T - ms)) (by omega) (by omega) ?_
    replace hCT : C - mc ≤ kc ∧ T - ms ≤ kt := by omega
    generalize C - mc = C6 at hf hCT ⊢
    generalize T - ms = T7 at hf hCT ⊢
    clear ho hcm
    exact w_X9_putSigns_182 X hret hf hCT hM (lv_sub hl [] rfl)
noncomputable def g_X9_putSigns_136 (Pw : Int32 → ZS → Prop) (x0 : Nat) (x1 : Nat) (x2 : Int32) (x3 : Nat) (S : ZS) (C T : Nat) : Prop :=
  m_ifQ (x2 < (4096 : Int32)) (
  g_X9_putSigns_160 Pw x0 x1 x2 x3 S (C) (T)
  ) (
  m_chkQ (zK S x3 = 6) (
  m_gal (C) (T) (fun mc ms Pw => g_X6_put x3 (61 : Int32) S mc ms Pw) (fun r2 S3 C4 T5 =>
  m_bndP (x2 >>> ((12 : Int32) &&& 31)) (fun v6 =>
  m_calP (f_X11_letterOf v6 S3) (fun o7 =>
  m_chkQ (zK o7.2 x3 = 6) (
  m_gal (C4) (T5) (fun mc ms Pw => g_X6_put x3 o7.1 o7.2 mc ms Pw) (fun r9 S10 C11 T12 =>
  g_X9_putSigns_160 Pw x0 x1 x2 x3 S10 (C11) (T12)))))))
  )

set_option maxRecDepth 100000 in
set_option maxHeartbeats 4000000 in
theorem w_X9_putSigns_136 {p : Program} {l : Launch} {e : Env} {s : State} {m : MethodId} {args : Array Value} {below : List Frame} {meth : Method} {c : Code} {Q : State → Prop} {D : va_G} {y : Nat → ClassId} {A0 : Nat → Prop} {kc kt : Nat} {Pw : Int32 → ZS → Prop} (X : CallFix p m c cX9_putSigns 7 s args wsX9_putSigns RX9) (hret : zQv p l e ({ frames := 5, cells := kc, slots := kt, locals := 134 } : Room) s m args below meth c Q cX9_putSigns D y A0 Pw) {x0 : Nat} {x1 : Nat} {x2 : Int32} {x3 : Nat} {S : ZS} {C T : Nat} {H : Heap} {locs : List Loc} {ls : Array Slot} (hf : g_X9_putSigns_136 Pw x0 x1 x2 x3 S C T) (hCT : C ≤ kc ∧ T ≤ kt) (hM : zH D y A0 s H locs S) (hl : lv_has ls 7 [(0, .ref (zh y x0)), (1, .ref (zh y x1)), (2, .int x2), (3, .ref (zh y x3))]) : W p l e ({ frames := 5, cells := kc, slots := kt, locals := 134 } : Room) s m args below meth c H locs (kc - C) (kt - T) Q (F0 m 136 ls []) := by
  obtain ⟨hx, hb, hml, hown, hts⟩ := id X
  unfold g_X9_putSigns_136 at hf
  refine lv_iload_n hx hb dX9_putSigns_136 rfl (lv_at hl 2 rfl) ?_
  refine lv_sipush (v := (4096 : Int32)) hx hb dX9_putSigns_137 (by decide) ?_
  refine lv_icmp_lt (tgt := 160) hx hb dX9_putSigns_140 (by decide) (fun cc1 => ?_) (fun cc1 => ?_)
  · replace hf := m_ifPT hf cc1
    exact w_X9_putSigns_160 (x0 := x0) (x1 := x1) (x2 := x2) (x3 := x3) X hret hf hCT hM (lv_sub hl [0, 1, 2, 3] rfl)
  · replace hf := m_ifPF hf cc1
    refine lv_aload_n hx hb dX9_putSigns_143 rfl (lv_at hl 3 rfl) ?_
    refine lv_bipush (v := (61 : Int32)) hx hb dX9_putSigns_144 (by decide) ?_
    obtain ⟨ca, hf⟩ := m_chkPE hf
    replace ca := z_in hM (by decide) ca
    obtain ⟨mc, ms, hcm, ho⟩ := m_galE hf
    refine z_wcallVv (k := 6) (C := RX6) (T := TX6) (N := 2) (fl := zf_6) X hM rfl zc_6 ca (c_X6_put ho) gX9_putSigns_X6_put rfl ⟨rfl, rfl⟩ ⟨by show kc - (C) + mc ≤ kc; omega, by show kt - (T) + ms ≤ kt; omega⟩ hd_X6_put ⟨Nat.le_of_ble_eq_true rfl, Nat.le_of_ble_eq_true rfl⟩ rfl hl.1 rfl (Nat.le_of_ble_eq_true rfl) dX9_putSigns_146 (fun S3 H locs hf hM => ?_)
    refine z_eqCS (c2 := kc - (C - mc)) (t2 := kt - (T - ms)) (by omega) (by omega) ?_
    replace hCT : C - mc ≤ kc ∧ T - ms ≤ kt := by omega
    generalize C - mc = C4 at hf hCT ⊢
    generalize T - ms = T5 at hf hCT ⊢
    clear ho hcm
    refine lv_aload_n hx hb dX9_putSigns_149 rfl (lv_at hl 3 rfl) ?_
    refine lv_iload_n hx hb dX9_putSigns_150 rfl (lv_at hl 2 rfl) ?_
    refine lv_bipush (v := (12 : Int32)) hx hb dX9_putSigns_151 (by decide) ?_
    refine lv_ishr hx hb dX9_putSigns_153 ?_
    obtain ⟨v6, ev, hf⟩ := m_bndPE hf
    refine m_top ev ?_
    clear ev
    obtain ⟨o7, ho, hf⟩ := m_calPE hf
    refine z_gcallSNi X hM (c_X11_letterOf ho) gX9_putSigns_X11_letterOf_n41 nn_X9_putSigns_41.1.1 nn_X9_putSigns_41.1.2 nn_X9_putSigns_41.2 rfl ⟨rfl, rfl⟩ hd_X11_letterOf ⟨Nat.le_of_ble_eq_true rfl, Nat.le_of_ble_eq_true rfl⟩ rfl hl.1 rfl ⟨Nat.sub_le _ _, Nat.sub_le _ _⟩ (Nat.le_of_ble_eq_true rfl) dX9_putSigns_154 (fun H locs hM => ?_)
    clear ho
    obtain ⟨ca, hf⟩ := m_chkPE hf
    replace ca := z_in hM (by decide) ca
    obtain ⟨mc, ms, hcm, ho⟩ := m_galE hf
    refine z_wcallVv (k := 6) (C := RX6) (T := TX6) (N := 2) (fl := zf_6) X hM rfl zc_6 ca (c_X6_put ho) gX9_putSigns_X6_put rfl ⟨rfl, rfl⟩ ⟨by show kc - (C4) + mc ≤ kc; omega, by show kt - (T5) + ms ≤ kt; omega⟩ hd_X6_put ⟨Nat.le_of_ble_eq_true rfl, Nat.le_of_ble_eq_true rfl⟩ rfl hl.1 rfl (Nat.le_of_ble_eq_true rfl) dX9_putSigns_157 (fun S10 H locs hf hM => ?_)
    refine z_eqCS (c2 := kc - (C4 - mc)) (t2 := kt - (T5 - ms)) (by omega) (by omega) ?_
    replace hCT : C4 - mc ≤ kc ∧ T5 - ms ≤ kt := by omega
    generalize C4 - mc = C11 at hf hCT ⊢
    generalize T5 - ms = T12 at hf hCT ⊢
    clear ho hcm
    exact w_X9_putSigns_160 (x0 := x0) (x1 := x1) (x2 := x2) (x3 := x3) X hret hf hCT hM (lv_sub hl [0, 1, 2, 3] rfl)
noncomputable def g_X9_putSigns_118 (Pw : Int32 → ZS → Prop) (x0 : Nat) (x1 : Nat) (x2 : Int32) (x3 : Nat) (x5 : Int32) (S : ZS) (C T : Nat) : Prop :=
  m_calP (f_X11_fileLetter x5 S) (fun o1 =>
  m_chkQ (zK o1.2 x3 = 6) (
  m_gal (C) (T) (fun mc ms Pw => g_X6_put x3 o1.1 o1.2 mc ms Pw) (fun r3 S4 C5 T6 =>
  m_calP (f_X11_rankDigit x5 S4) (fun o7 =>
  m_chkQ (zK o7.2 x3 = 6) (
  m_gal (C5) (T6) (fun mc ms Pw => g_X6_put x3 o7.1 o7.2 mc ms Pw) (fun r9 S10 C11 T12 =>
  g_X9_putSigns_136 Pw x0 x1 x2 x3 S10 (C11) (T12)))))))

set_option maxRecDepth 100000 in
set_option maxHeartbeats 4000000 in
theorem w_X9_putSigns_118 {p : Program} {l : Launch} {e : Env} {s : State} {m : MethodId} {args : Array Value} {below : List Frame} {meth : Method} {c : Code} {Q : State → Prop} {D : va_G} {y : Nat → ClassId} {A0 : Nat → Prop} {kc kt : Nat} {Pw : Int32 → ZS → Prop} (X : CallFix p m c cX9_putSigns 7 s args wsX9_putSigns RX9) (hret : zQv p l e ({ frames := 5, cells := kc, slots := kt, locals := 134 } : Room) s m args below meth c Q cX9_putSigns D y A0 Pw) {x0 : Nat} {x1 : Nat} {x2 : Int32} {x3 : Nat} {x5 : Int32} {S : ZS} {C T : Nat} {H : Heap} {locs : List Loc} {ls : Array Slot} (hf : g_X9_putSigns_118 Pw x0 x1 x2 x3 x5 S C T) (hCT : C ≤ kc ∧ T ≤ kt) (hM : zH D y A0 s H locs S) (hl : lv_has ls 7 [(0, .ref (zh y x0)), (1, .ref (zh y x1)), (2, .int x2), (3, .ref (zh y x3)), (5, .int x5)]) : W p l e ({ frames := 5, cells := kc, slots := kt, locals := 134 } : Room) s m args below meth c H locs (kc - C) (kt - T) Q (F0 m 118 ls []) := by
  obtain ⟨hx, hb, hml, hown, hts⟩ := id X
  unfold g_X9_putSigns_118 at hf
  refine lv_aload_n hx hb dX9_putSigns_118 rfl (lv_at hl 3 rfl) ?_
  refine lv_iload hx hb dX9_putSigns_119 (lv_at hl 4 rfl) ?_
  obtain ⟨o1, ho, hf⟩ := m_calPE hf
  refine z_gcallSNi X hM (c_X11_fileLetter ho) gX9_putSigns_X11_fileLetter_n53 nn_X9_putSigns_53.1.1 nn_X9_putSigns_53.1.2 nn_X9_putSigns_53.2 rfl ⟨rfl, rfl⟩ hd_X11_fileLetter ⟨Nat.le_of_ble_eq_true rfl, Nat.le_of_ble_eq_true rfl⟩ rfl hl.1 rfl ⟨Nat.sub_le _ _, Nat.sub_le _ _⟩ (Nat.le_of_ble_eq_true rfl) dX9_putSigns_121 (fun H locs hM => ?_)
  clear ho
  obtain ⟨ca, hf⟩ := m_chkPE hf
  replace ca := z_in hM (by decide) ca
  obtain ⟨mc, ms, hcm, ho⟩ := m_galE hf
  refine z_wcallVv (k := 6) (C := RX6) (T := TX6) (N := 2) (fl := zf_6) X hM rfl zc_6 ca (c_X6_put ho) gX9_putSigns_X6_put rfl ⟨rfl, rfl⟩ ⟨by show kc - (C) + mc ≤ kc; omega, by show kt - (T) + ms ≤ kt; omega⟩ hd_X6_put ⟨Nat.le_of_ble_eq_true rfl, Nat.le_of_ble_eq_true rfl⟩ rfl hl.1 rfl (Nat.le_of_ble_eq_true rfl) dX9_putSigns_124 (fun S4 H locs hf hM => ?_)
  refine z_eqCS (c2 := kc - (C - mc)) (t2 := kt - (T - ms)) (by omega) (by omega) ?_
  replace hCT : C - mc ≤ kc ∧ T - ms ≤ kt := by omega
  generalize C - mc = C5 at hf hCT ⊢
  generalize T - ms = T6 at hf hCT ⊢
  clear ho hcm
  refine lv_aload_n hx hb dX9_putSigns_127 rfl (lv_at hl 3 rfl) ?_
  refine lv_iload hx hb dX9_putSigns_128 (lv_at hl 4 rfl) ?_
  obtain ⟨o7, ho, hf⟩ := m_calPE hf
  refine z_gcallSNi X hM (c_X11_rankDigit ho) gX9_putSigns_X11_rankDigit_n56 nn_X9_putSigns_56.1.1 nn_X9_putSigns_56.1.2 nn_X9_putSigns_56.2 rfl ⟨rfl, rfl⟩ hd_X11_rankDigit ⟨Nat.le_of_ble_eq_true rfl, Nat.le_of_ble_eq_true rfl⟩ rfl hl.1 rfl ⟨Nat.sub_le _ _, Nat.sub_le _ _⟩ (Nat.le_of_ble_eq_true rfl) dX9_putSigns_130 (fun H locs hM => ?_)
  clear ho
  obtain ⟨ca, hf⟩ := m_chkPE hf
  replace ca := z_in hM (by decide) ca
  obtain ⟨mc, ms, hcm, ho⟩ := m_galE hf
  refine z_wcallVv (k := 6) (C := RX6) (T := TX6) (N := 2) (fl := zf_6) X hM rfl zc_6 ca (c_X6_put ho) gX9_putSigns_X6_put rfl ⟨rfl, rfl⟩ ⟨by show kc - (C5) + mc ≤ kc; omega, by show kt - (T6) + ms ≤ kt; omega⟩ hd_X6_put ⟨Nat.le_of_ble_eq_true rfl, Nat.le_of_ble_eq_true rfl⟩ rfl hl.1 rfl (Nat.le_of_ble_eq_true rfl) dX9_putSigns_133 (fun S10 H locs hf hM => ?_)
  refine z_eqCS (c2 := kc - (C5 - mc)) (t2 := kt - (T6 - ms)) (by omega) (by omega) ?_
  replace hCT : C5 - mc ≤ kc ∧ T6 - ms ≤ kt := by omega
  generalize C5 - mc = C11 at hf hCT ⊢
  generalize T6 - ms = T12 at hf hCT ⊢
  clear ho hcm
  exact w_X9_putSigns_136 (x0 := x0) (x1 := x1) (x2 := x2) (x3 := x3) X hret hf hCT hM (lv_sub hl [0, 1, 2, 3] rfl)
noncomputable def g_X9_putSigns_107 (Pw : Int32 → ZS → Prop) (x0 : Nat) (x1 : Nat) (x2 : Int32) (x3 : Nat) (x5 : Int32) (x6 : Int32) (S : ZS) (C T : Nat) : Prop :=
  m_ifQ (x6 = 0) (
  g_X9_putSigns_118 Pw x0 x1 x2 x3 x5 S (C) (T)
  ) (
  m_chkQ (zK S x3 = 6) (
  m_gal (C) (T) (fun mc ms Pw => g_X6_put x3 (120 : Int32) S mc ms Pw) (fun r2 S3 C4 T5 =>
  g_X9_putSigns_118 Pw x0 x1 x2 x3 x5 S3 (C4) (T5)))
  )

set_option maxRecDepth 100000 in
set_option maxHeartbeats 4000000 in
theorem w_X9_putSigns_107 {p : Program} {l : Launch} {e : Env} {s : State} {m : MethodId} {args : Array Value} {below : List Frame} {meth : Method} {c : Code} {Q : State → Prop} {D : va_G} {y : Nat → ClassId} {A0 : Nat → Prop} {kc kt : Nat} {Pw : Int32 → ZS → Prop} (X : CallFix p m c cX9_putSigns 7 s args wsX9_putSigns RX9) (hret : zQv p l e ({ frames := 5, cells := kc, slots := kt, locals := 134 } : Room) s m args below meth c Q cX9_putSigns D y A0 Pw) {x0 : Nat} {x1 : Nat} {x2 : Int32} {x3 : Nat} {x5 : Int32} {x6 : Int32} {S : ZS} {C T : Nat} {H : Heap} {locs : List Loc} {ls : Array Slot} (hf : g_X9_putSigns_107 Pw x0 x1 x2 x3 x5 x6 S C T) (hCT : C ≤ kc ∧ T ≤ kt) (hM : zH D y A0 s H locs S) (hl : lv_has ls 7 [(0, .ref (zh y x0)), (1, .ref (zh y x1)), (2, .int x2), (3, .ref (zh y x3)), (5, .int x5), (6, .int x6)]) : W p l e ({ frames := 5, cells := kc, slots := kt, locals := 134 } : Room) s m args below meth c H locs (kc - C) (kt - T) Q (F0 m 107 ls []) := by
  obtain ⟨hx, hb, hml, hown, hts⟩ := id X
  unfold g_X9_putSigns_107 at hf
  refine lv_iload hx hb dX9_putSigns_107 (lv_at hl 5 rfl) ?_
  refine lv_if_eq (tgt := 118) hx hb dX9_putSigns_109 (by decide) (fun cc1 => ?_) (fun cc1 => ?_)
  · replace hf := m_ifPT hf cc1
    exact w_X9_putSigns_118 (x0 := x0) (x1 := x1) (x2 := x2) (x3 := x3) (x5 := x5) X hret hf hCT hM (lv_sub hl [0, 1, 2, 3, 4] rfl)
  · replace hf := m_ifPF hf cc1
    refine lv_aload_n hx hb dX9_putSigns_112 rfl (lv_at hl 3 rfl) ?_
    refine lv_bipush (v := (120 : Int32)) hx hb dX9_putSigns_113 (by decide) ?_
    obtain ⟨ca, hf⟩ := m_chkPE hf
    replace ca := z_in hM (by decide) ca
    obtain ⟨mc, ms, hcm, ho⟩ := m_galE hf
    refine z_wcallVv (k := 6) (C := RX6) (T := TX6) (N := 2) (fl := zf_6) X hM rfl zc_6 ca (c_X6_put ho) gX9_putSigns_X6_put rfl ⟨rfl, rfl⟩ ⟨by show kc - (C) + mc ≤ kc; omega, by show kt - (T) + ms ≤ kt; omega⟩ hd_X6_put ⟨Nat.le_of_ble_eq_true rfl, Nat.le_of_ble_eq_true rfl⟩ rfl hl.1 rfl (Nat.le_of_ble_eq_true rfl) dX9_putSigns_115 (fun S3 H locs hf hM => ?_)
    refine z_eqCS (c2 := kc - (C - mc)) (t2 := kt - (T - ms)) (by omega) (by omega) ?_
    replace hCT : C - mc ≤ kc ∧ T - ms ≤ kt := by omega
    generalize C - mc = C4 at hf hCT ⊢
    generalize T - ms = T5 at hf hCT ⊢
    clear ho hcm
    exact w_X9_putSigns_118 (x0 := x0) (x1 := x1) (x2 := x2) (x3 := x3) (x5 := x5) X hret hf hCT hM (lv_sub hl [0, 1, 2, 3, 4] rfl)
noncomputable def g_X9_putSigns_41 (Pw : Int32 → ZS → Prop) (x0 : Nat) (x1 : Nat) (x2 : Int32) (x3 : Nat) (t0 : Nat) (t1 : Nat) (S : ZS) (C T : Nat) : Prop :=
  m_chkQ (zK S t1 = 6) (
  m_gal (C) (T) (fun mc ms Pw => g_X6_putText t1 t0 S mc ms Pw) (fun r2 S3 C4 T5 =>
  g_X9_putSigns_136 Pw x0 x1 x2 x3 S3 (C4) (T5)))

set_option maxRecDepth 100000 in
set_option maxHeartbeats 4000000 in
theorem w_X9_putSigns_41 {p : Program} {l : Launch} {e : Env} {s : State} {m : MethodId} {args : Array Value} {below : List Frame} {meth : Method} {c : Code} {Q : State → Prop} {D : va_G} {y : Nat → ClassId} {A0 : Nat → Prop} {kc kt : Nat} {Pw : Int32 → ZS → Prop} (X : CallFix p m c cX9_putSigns 7 s args wsX9_putSigns RX9) (hret : zQv p l e ({ frames := 5, cells := kc, slots := kt, locals := 134 } : Room) s m args below meth c Q cX9_putSigns D y A0 Pw) {x0 : Nat} {x1 : Nat} {x2 : Int32} {x3 : Nat} {t0 : Nat} {t1 : Nat} {S : ZS} {C T : Nat} {H : Heap} {locs : List Loc} {ls : Array Slot} (hf : g_X9_putSigns_41 Pw x0 x1 x2 x3 t0 t1 S C T) (hCT : C ≤ kc ∧ T ≤ kt) (hM : zH D y A0 s H locs S) (hl : lv_has ls 7 [(0, .ref (zh y x0)), (1, .ref (zh y x1)), (2, .int x2), (3, .ref (zh y x3))]) : W p l e ({ frames := 5, cells := kc, slots := kt, locals := 134 } : Room) s m args below meth c H locs (kc - C) (kt - T) Q (F0 m 41 ls [.ref (y (100 + t0)), .ref (zh y t1)]) := by
  obtain ⟨hx, hb, hml, hown, hts⟩ := id X
  unfold g_X9_putSigns_41 at hf
  obtain ⟨ca, hf⟩ := m_chkPE hf
  replace ca := z_in hM (by decide) ca
  obtain ⟨mc, ms, hcm, ho⟩ := m_galE hf
  refine z_wcallVv (k := 6) (C := RX6) (T := TX6) (N := 2) (fl := zf_6) X hM rfl zc_6 ca (c_X6_putText ho) gX9_putSigns_X6_putText rfl ⟨rfl, rfl⟩ ⟨by show kc - (C) + mc ≤ kc; omega, by show kt - (T) + ms ≤ kt; omega⟩ hd_X6_putText ⟨Nat.le_of_ble_eq_true rfl, Nat.le_of_ble_eq_true rfl⟩ rfl hl.1 rfl (Nat.le_of_ble_eq_true rfl) dX9_putSigns_41 (fun S3 H locs hf hM => ?_)
  refine z_eqCS (c2 := kc - (C - mc)) (t2 := kt - (T - ms)) (by omega) (by omega) ?_
  replace hCT : C - mc ≤ kc ∧ T - ms ≤ kt := by omega
  generalize C - mc = C4 at hf hCT ⊢
  generalize T - ms = T5 at hf hCT ⊢
  clear ho hcm
  refine lv_goto (tgt := 136) hx hb dX9_putSigns_44 (by decide) ?_
  exact w_X9_putSigns_136 (x0 := x0) (x1 := x1) (x2 := x2) (x3 := x3) X hret hf hCT hM (lv_sub hl [0, 1, 2, 3] rfl)
noncomputable def g_X9_putSigns_0 (Pw : Int32 → ZS → Prop) (x0 : Nat) (x1 : Nat) (x2 : Int32) (x3 : Nat) (S : ZS) (C T : Nat) : Prop :=
  m_bndP (x2 &&& (63 : Int32)) (fun v1 =>
  m_bndP (x2 >>> ((6 : Int32) &&& 31)) (fun v2 =>
  m_bndP (v2 &&& (63 : Int32)) (fun v3 =>
  m_chkQ (zK S x1 = 0) (
  m_calP (f_X0_castles x1 v1 v3 S) (fun o4 =>
  m_ifQ (o4.1 = 0) (
  m_chkQ (zK o4.2 x1 = 0) (
  m_calP (f_X0_takes x1 v1 v3 o4.2) (fun o5 =>
  m_chkQ (zK o5.2 x1 = 0) (
  m_calP (f_X0_kindAt x1 v1 o5.2) (fun o6 =>
  m_ifQ (o6.1 = (1 : Int32)) (
  m_ifQ (o5.1 = 0) (
  g_X9_putSigns_107 Pw x0 x1 x2 x3 v3 o5.1 o6.2 (C) (T)
  ) (
  m_calP (f_X11_fileLetter v1 o6.2) (fun o7 =>
  m_chkQ (zK o7.2 x3 = 6) (
  m_gal (C) (T) (fun mc ms Pw => g_X6_put x3 o7.1 o7.2 mc ms Pw) (fun r9 S10 C11 T12 =>
  g_X9_putSigns_107 Pw x0 x1 x2 x3 v3 o5.1 S10 (C11) (T12))))
  )
  ) (
  m_chkQ (zK o6.2 x1 = 0) (
  m_calP (f_X0_kindAt x1 v1 o6.2) (fun o13 =>
  m_calP (f_X11_letterOf o13.1 o13.2) (fun o14 =>
  m_chkQ (zK o14.2 x3 = 6) (
  m_gal (C) (T) (fun mc ms Pw => g_X6_put x3 o14.1 o14.2 mc ms Pw) (fun r16 S17 C18 T19 =>
  m_chkQ (zK S17 x0 = 9) (
  m_gal (C18) (T19) (fun mc ms Pw => g_X9_putApart x0 x1 v1 v3 x3 S17 mc ms Pw) (fun r21 S22 C23 T24 =>
  g_X9_putSigns_107 Pw x0 x1 x2 x3 v3 o5.1 S22 (C23) (T24))))))))
  )))))
  ) (
  m_ifQ (v3 ≤ v1) (
  g_X9_putSigns_41 Pw x0 x1 x2 x3 8 x3 o4.2 (C) (T)
  ) (
  g_X9_putSigns_41 Pw x0 x1 x2 x3 7 x3 o4.2 (C) (T)
  )
  ))))))

set_option maxRecDepth 100000 in
set_option maxHeartbeats 4000000 in
theorem w_X9_putSigns_0 {p : Program} {l : Launch} {e : Env} {s : State} {m : MethodId} {args : Array Value} {below : List Frame} {meth : Method} {c : Code} {Q : State → Prop} {D : va_G} {y : Nat → ClassId} {A0 : Nat → Prop} {kc kt : Nat} {Pw : Int32 → ZS → Prop} (X : CallFix p m c cX9_putSigns 7 s args wsX9_putSigns RX9) (hret : zQv p l e ({ frames := 5, cells := kc, slots := kt, locals := 134 } : Room) s m args below meth c Q cX9_putSigns D y A0 Pw) {x0 : Nat} {x1 : Nat} {x2 : Int32} {x3 : Nat} {S : ZS} {C T : Nat} {H : Heap} {locs : List Loc} {ls : Array Slot} (hf : g_X9_putSigns_0 Pw x0 x1 x2 x3 S C T) (hCT : C ≤ kc ∧ T ≤ kt) (hM : zH D y A0 s H locs S) (hl : lv_has ls 7 [(0, .ref (zh y x0)), (1, .ref (zh y x1)), (2, .int x2), (3, .ref (zh y x3))]) : W p l e ({ frames := 5, cells := kc, slots := kt, locals := 134 } : Room) s m args below meth c H locs (kc - C) (kt - T) Q (F0 m 0 ls []) := by
  obtain ⟨hx, hb, hml, hown, hts⟩ := id X
  unfold g_X9_putSigns_0 at hf
  refine lv_iload_n hx hb dX9_putSigns_0 rfl (lv_at hl 2 rfl) ?_
  refine lv_bipush (v := (63 : Int32)) hx hb dX9_putSigns_1 (by decide) ?_
  refine lv_iand hx hb dX9_putSigns_3 ?_
  obtain ⟨v1, ev, hf⟩ := m_bndPE hf
  refine m_top ev ?_
  clear ev
  refine lv_istore (lv' := [(4, .int v1), (0, .ref (zh y x0)), (1, .ref (zh y x1)), (2, .int x2), (3, .ref (zh y x3))]) hx hb dX9_putSigns_4 hl (by decide) rfl (fun ls hl => ?_)
  refine lv_iload_n hx hb dX9_putSigns_6 rfl (lv_at hl 3 rfl) ?_
  refine lv_bipush (v := (6 : Int32)) hx hb dX9_putSigns_7 (by decide) ?_
  refine lv_ishr hx hb dX9_putSigns_9 ?_
  obtain ⟨v2, ev, hf⟩ := m_bndPE hf
  refine m_top ev ?_
  clear ev
  refine lv_bipush (v := (63 : Int32)) hx hb dX9_putSigns_10 (by decide) ?_
  refine lv_iand hx hb dX9_putSigns_12 ?_
  obtain ⟨v3, ev, hf⟩ := m_bndPE hf
  refine m_top ev ?_
  clear ev
  refine lv_istore (lv' := [(5, .int v3), (4, .int v1), (0, .ref (zh y x0)), (1, .ref (zh y x1)), (2, .int x2), (3, .ref (zh y x3))]) hx hb dX9_putSigns_13 hl (by decide) rfl (fun ls hl => ?_)
  refine lv_aload_n hx hb dX9_putSigns_15 rfl (lv_at hl 3 rfl) ?_
  refine lv_iload hx hb dX9_putSigns_16 (lv_at hl 1 rfl) ?_
  refine lv_iload hx hb dX9_putSigns_18 (lv_at hl 0 rfl) ?_
  obtain ⟨ca, hf⟩ := m_chkPE hf
  replace ca := z_in hM (by decide) ca
  obtain ⟨o4, ho, hf⟩ := m_calPE hf
  refine z_gcallVi (k := 0) (C := RX0) (T := TX0) (N := 7) (fl := zf_0) X hM rfl zc_0 ca (c_X0_castles ho) gX9_putSigns_X0_castles rfl ⟨rfl, rfl⟩ hd_X0_castles ⟨Nat.le_of_ble_eq_true rfl, Nat.le_of_ble_eq_true rfl⟩ rfl hl.1 rfl ⟨Nat.sub_le _ _, Nat.sub_le _ _⟩ (Nat.le_of_ble_eq_true rfl) dX9_putSigns_20 (fun H locs hM => ?_)
  clear ho
  refine lv_if_eq (tgt := 47) hx hb dX9_putSigns_23 (by decide) (fun cc1 => ?_) (fun cc1 => ?_)
  · replace hf := m_ifPT hf cc1
    refine lv_aload_n hx hb dX9_putSigns_47 rfl (lv_at hl 3 rfl) ?_
    refine lv_iload hx hb dX9_putSigns_48 (lv_at hl 1 rfl) ?_
    refine lv_iload hx hb dX9_putSigns_50 (lv_at hl 0 rfl) ?_
    obtain ⟨ca, hf⟩ := m_chkPE hf
    replace ca := z_in hM (by decide) ca
    obtain ⟨o5, ho, hf⟩ := m_calPE hf
    refine z_gcallVi (k := 0) (C := RX0) (T := TX0) (N := 7) (fl := zf_0) X hM rfl zc_0 ca (c_X0_takes ho) gX9_putSigns_X0_takes rfl ⟨rfl, rfl⟩ hd_X0_takes ⟨Nat.le_of_ble_eq_true rfl, Nat.le_of_ble_eq_true rfl⟩ rfl hl.1 rfl ⟨Nat.sub_le _ _, Nat.sub_le _ _⟩ (Nat.le_of_ble_eq_true rfl) dX9_putSigns_52 (fun H locs hM => ?_)
    clear ho
    refine lv_istore (lv' := [(6, .int o5.1), (5, .int v3), (4, .int v1), (0, .ref (zh y x0)), (1, .ref (zh y x1)), (2, .int x2), (3, .ref (zh y x3))]) hx hb dX9_putSigns_55 hl (by decide) rfl (fun ls hl => ?_)
    refine lv_aload_n hx hb dX9_putSigns_57 rfl (lv_at hl 4 rfl) ?_
    refine lv_iload hx hb dX9_putSigns_58 (lv_at hl 2 rfl) ?_
    obtain ⟨ca, hf⟩ := m_chkPE hf
    replace ca := z_in hM (by decide) ca
    obtain ⟨o6, ho, hf⟩ := m_calPE hf
    refine z_gcallVi (k := 0) (C := RX0) (T := TX0) (N := 7) (fl := zf_0) X hM rfl zc_0 ca (c_X0_kindAt ho) gX9_putSigns_X0_kindAt rfl ⟨rfl, rfl⟩ hd_X0_kindAt ⟨Nat.le_of_ble_eq_true rfl, Nat.le_of_ble_eq_true rfl⟩ rfl hl.1 rfl ⟨Nat.sub_le _ _, Nat.sub_le _ _⟩ (Nat.le_of_ble_eq_true rfl) dX9_putSigns_60 (fun H locs hM => ?_)
    clear ho
    refine lv_iconst (v := (1 : Int32)) hx hb dX9_putSigns_63 (by decide) ?_
    refine lv_icmp_eq (tgt := 93) hx hb dX9_putSigns_64 (by decide) (fun cc1 => ?_) (fun cc1 => ?_)
    · replace hf := m_ifPT hf cc1
      refine lv_iload hx hb dX9_putSigns_93 (lv_at hl 0 rfl) ?_
      refine lv_if_eq (tgt := 107) hx hb dX9_putSigns_95 (by decide) (fun cc1 => ?_) (fun cc1 => ?_)
      · replace hf := m_ifPT hf cc1
        exact w_X9_putSigns_107 (x0 := x0) (x1 := x1) (x2 := x2) (x3 := x3) (x5 := v3) (x6 := o5.1) X hret hf hCT hM (lv_sub hl [3, 4, 5, 6, 1, 0] rfl)
      · replace hf := m_ifPF hf cc1
        refine lv_aload_n hx hb dX9_putSigns_98 rfl (lv_at hl 6 rfl) ?_
        refine lv_iload hx hb dX9_putSigns_99 (lv_at hl 2 rfl) ?_
        obtain ⟨o7, ho, hf⟩ := m_calPE hf
        refine z_gcallSNi X hM (c_X11_fileLetter ho) gX9_putSigns_X11_fileLetter_n53 nn_X9_putSigns_53.1.1 nn_X9_putSigns_53.1.2 nn_X9_putSigns_53.2 rfl ⟨rfl, rfl⟩ hd_X11_fileLetter ⟨Nat.le_of_ble_eq_true rfl, Nat.le_of_ble_eq_true rfl⟩ rfl hl.1 rfl ⟨Nat.sub_le _ _, Nat.sub_le _ _⟩ (Nat.le_of_ble_eq_true rfl) dX9_putSigns_101 (fun H locs hM => ?_)
        clear ho
        obtain ⟨ca, hf⟩ := m_chkPE hf
        replace ca := z_in hM (by decide) ca
        obtain ⟨mc, ms, hcm, ho⟩ := m_galE hf
        refine z_wcallVv (k := 6) (C := RX6) (T := TX6) (N := 2) (fl := zf_6) X hM rfl zc_6 ca (c_X6_put ho) gX9_putSigns_X6_put rfl ⟨rfl, rfl⟩ ⟨by show kc - (C) + mc ≤ kc; omega, by show kt - (T) + ms ≤ kt; omega⟩ hd_X6_put ⟨Nat.le_of_ble_eq_true rfl, Nat.le_of_ble_eq_true rfl⟩ rfl hl.1 rfl (Nat.le_of_ble_eq_true rfl) dX9_putSigns_104 (fun S10 H locs hf hM => ?_)
        refine z_eqCS (c2 := kc - (C - mc)) (t2 := kt - (T - ms)) (by omega) (by omega) ?_
        replace hCT : C - mc ≤ kc ∧ T - ms ≤ kt := by omega
        generalize C - mc = C11 at hf hCT ⊢
        generalize T - ms = T12 at hf hCT ⊢
        clear ho hcm
        exact w_X9_putSigns_107 (x0 := x0) (x1 := x1) (x2 := x2) (x3 := x3) (x5 := v3) (x6 := o5.1) X hret hf hCT hM (lv_sub hl [3, 4, 5, 6, 1, 0] rfl)
    · replace hf := m_ifPF hf cc1
      refine lv_aload_n hx hb dX9_putSigns_67 rfl (lv_at hl 6 rfl) ?_
      refine lv_aload_n hx hb dX9_putSigns_68 rfl (lv_at hl 4 rfl) ?_
      refine lv_iload hx hb dX9_putSigns_69 (lv_at hl 2 rfl) ?_
      obtain ⟨ca, hf⟩ := m_chkPE hf
      replace ca := z_in hM (by decide) ca
      obtain ⟨o13, ho, hf⟩ := m_calPE hf
      refine z_gcallVi (k := 0) (C := RX0) (T := TX0) (N := 7) (fl := zf_0) X hM rfl zc_0 ca (c_X0_kindAt ho) gX9_putSigns_X0_kindAt rfl ⟨rfl, rfl⟩ hd_X0_kindAt ⟨Nat.le_of_ble_eq_true rfl, Nat.le_of_ble_eq_true rfl⟩ rfl hl.1 rfl ⟨Nat.sub_le _ _, Nat.sub_le _ _⟩ (Nat.le_of_ble_eq_true rfl) dX9_putSigns_71 (fun H locs hM => ?_)
      clear ho
      obtain ⟨o14, ho, hf⟩ := m_calPE hf
      refine z_gcallSNi X hM (c_X11_letterOf ho) gX9_putSigns_X11_letterOf_n41 nn_X9_putSigns_41.1.1 nn_X9_putSigns_41.1.2 nn_X9_putSigns_41.2 rfl ⟨rfl, rfl⟩ hd_X11_letterOf ⟨Nat.le_of_ble_eq_true rfl, Nat.le_of_ble_eq_true rfl⟩ rfl hl.1 rfl ⟨Nat.sub_le _ _, Nat.sub_le _ _⟩ (Nat.le_of_ble_eq_true rfl) dX9_putSigns_74 (fun H locs hM => ?_)
      clear ho
      obtain ⟨ca, hf⟩ := m_chkPE hf
      replace ca := z_in hM (by decide) ca
      obtain ⟨mc, ms, hcm, ho⟩ := m_galE hf
      refine z_wcallVv (k := 6) (C := RX6) (T := TX6) (N := 2) (fl := zf_6) X hM rfl zc_6 ca (c_X6_put ho) gX9_putSigns_X6_put rfl ⟨rfl, rfl⟩ ⟨by show kc - (C) + mc ≤ kc; omega, by show kt - (T) + ms ≤ kt; omega⟩ hd_X6_put ⟨Nat.le_of_ble_eq_true rfl, Nat.le_of_ble_eq_true rfl⟩ rfl hl.1 rfl (Nat.le_of_ble_eq_true rfl) dX9_putSigns_77 (fun S17 H locs hf hM => ?_)
      refine z_eqCS (c2 := kc - (C - mc)) (t2 := kt - (T - ms)) (by omega) (by omega) ?_
      replace hCT : C - mc ≤ kc ∧ T - ms ≤ kt := by omega
      generalize C - mc = C18 at hf hCT ⊢
      generalize T - ms = T19 at hf hCT ⊢
      clear ho hcm
      refine lv_aload_n hx hb dX9_putSigns_80 rfl (lv_at hl 3 rfl) ?_
      refine lv_aload_n hx hb dX9_putSigns_81 rfl (lv_at hl 4 rfl) ?_
      refine lv_iload hx hb dX9_putSigns_82 (lv_at hl 2 rfl) ?_
      refine lv_iload hx hb dX9_putSigns_84 (lv_at hl 1 rfl) ?_
      refine lv_aload_n hx hb dX9_putSigns_86 rfl (lv_at hl 6 rfl) ?_
      obtain ⟨ca, hf⟩ := m_chkPE hf
      replace ca := z_in hM (by decide) ca
      obtain ⟨mc, ms, hcm, ho⟩ := m_galE hf
      refine z_wcallVv (k := 9) (C := RX9) (T := TX9) (N := 1) (fl := zf_9) X hM rfl zc_9 ca (c_X9_putApart ho) gX9_putSigns_X9_putApart rfl ⟨rfl, rfl⟩ ⟨by show kc - (C18) + mc ≤ kc; omega, by show kt - (T19) + ms ≤ kt; omega⟩ hd_X9_putApart ⟨Nat.le_of_ble_eq_true rfl, Nat.le_of_ble_eq_true rfl⟩ rfl hl.1 rfl (Nat.le_of_ble_eq_true rfl) dX9_putSigns_87 (fun S22 H locs hf hM => ?_)
      refine z_eqCS (c2 := kc - (C18 - mc)) (t2 := kt - (T19 - ms)) (by omega) (by omega) ?_
      replace hCT : C18 - mc ≤ kc ∧ T19 - ms ≤ kt := by omega
      generalize C18 - mc = C23 at hf hCT ⊢
      generalize T19 - ms = T24 at hf hCT ⊢
      clear ho hcm
      refine lv_goto (tgt := 107) hx hb dX9_putSigns_90 (by decide) ?_
      exact w_X9_putSigns_107 (x0 := x0) (x1 := x1) (x2 := x2) (x3 := x3) (x5 := v3) (x6 := o5.1) X hret hf hCT hM (lv_sub hl [3, 4, 5, 6, 1, 0] rfl)
  · replace hf := m_ifPF hf cc1
    refine lv_aload_n hx hb dX9_putSigns_26 rfl (lv_at hl 5 rfl) ?_
    refine lv_iload hx hb dX9_putSigns_27 (lv_at hl 0 rfl) ?_
    refine lv_iload hx hb dX9_putSigns_29 (lv_at hl 1 rfl) ?_
    refine lv_icmp_le (tgt := 39) hx hb dX9_putSigns_31 (by decide) (fun cc1 => ?_) (fun cc1 => ?_)
    · replace hf := m_ifPT hf cc1
      refine z_ldcS X hM sr_X9_putSigns_26 dX9_putSigns_39 ?_
      exact w_X9_putSigns_41 (x0 := x0) (x1 := x1) (x2 := x2) (x3 := x3) (t0 := 8) (t1 := x3) X hret hf hCT hM (lv_sub hl [2, 3, 4, 5] rfl)
    · replace hf := m_ifPF hf cc1
      refine z_ldcS X hM sr_X9_putSigns_24 dX9_putSigns_34 ?_
      refine lv_goto (tgt := 41) hx hb dX9_putSigns_36 (by decide) ?_
      exact w_X9_putSigns_41 (x0 := x0) (x1 := x1) (x2 := x2) (x3 := x3) (t0 := 7) (t1 := x3) X hret hf hCT hM (lv_sub hl [2, 3, 4, 5] rfl)
noncomputable def g_X9_putSigns (x0 : Nat) (x1 : Nat) (x2 : Int32) (x3 : Nat) (S : ZS) (mc ms : Nat) (Pw : Int32 → ZS → Prop) : Prop := g_X9_putSigns_0 Pw x0 x1 x2 x3 S mc ms
theorem c_X9_putSigns {l : Launch} {D : va_G} {y : Nat → ClassId} {x0 : Nat} {x1 : Nat} {x2 : Int32} {x3 : Nat} {S : ZS} {kc kt : Nat} {Pw : Int32 → ZS → Prop} (hf : g_X9_putSigns x0 x1 x2 x3 S kc kt Pw) : zWv l yX9_putSigns wsX9_putSigns ({ frames := 5, cells := kc, slots := kt, locals := 134 } : Room) [.ref (zh y x0), .ref (zh y x1), .int x2, .ref (zh y x3)] D y S kc kt Pw :=
  z_wentV (own := RX9) (cc := cX9_putSigns) (maxL := 7) (by decide) rfl rfl (Nat.le_of_ble_eq_true rfl) ⟨rfl, rfl⟩ (fun p e s m args below meth c A0 Q H locs ls X hret hM hl => w_X9_putSigns_0 X hret hf ⟨Nat.le_refl _, Nat.le_refl _⟩ hM (lv_sub hl [0, 1, 2, 3] rfl))
theorem hd_X4_markAt : yX4_markAt.cls = RX4 ∧ yX4_markAt.cls ≠ "java/lang/invoke/MethodHandle" ∧ yX4_markAt.cls ≠ "java/lang/invoke/VarHandle" ∧ (parseMethodDescriptor yX4_markAt.desc).map (fun d => d.parameters.length) = some 1 := by decide +kernel
theorem fl_X4_markAt_4_5 : Cond.fieldLink RX4 27 "MoveTexts$Node" "marks" "I" ∈ wsX4_markAt := by decide +kernel
theorem hw_X4_markAt_4 : ∀ w ∈ wsX40, w ∈ wsX4_markAt := by decide +kernel
noncomputable def f_X4_markAt_0 (x0 : Nat) (x1 : Int32) (S : ZS) : Option (Int32 × ZS) :=
  m_chk (zK S x0 = 4) (
  m_bnd ((8 : Int32) * x1) (fun v1 =>
  m_bnd ((((zI S 5 x0)).toUInt32 >>> ((v1).toUInt32 &&& Int32.toUInt32 31)).toInt32) (fun v2 =>
  m_bnd (v2 &&& (255 : Int32)) (fun v3 =>
  some (v3, S)))))

set_option maxRecDepth 100000 in
set_option maxHeartbeats 4000000 in
theorem w_X4_markAt_0 {p : Program} {l : Launch} {e : Env} {s : State} {m : MethodId} {args : Array Value} {below : List Frame} {meth : Method} {c : Code} {Q : State → Prop} {D : va_G} {y : Nat → ClassId} {A0 : Nat → Prop} {o : Int32 × ZS} (X : CallFix p m c cX4_markAt 2 s args wsX4_markAt RX4) (hret : zRi p l e ({ frames := 0, cells := 0, slots := 0, locals := 0 } : Room) s m args below meth c Q cX4_markAt D y A0 .int o) {x0 : Nat} {x1 : Int32} {S : ZS} {H : Heap} {locs : List Loc} {ls : Array Slot} (hf : f_X4_markAt_0 x0 x1 S = some o) (hM : zH D y A0 s H locs S) (hl : lv_has ls 2 [(0, .ref (zh y x0)), (1, .int x1)]) : W p l e ({ frames := 0, cells := 0, slots := 0, locals := 0 } : Room) s m args below meth c H locs 0 0 Q (F0 m 0 ls []) := by
  obtain ⟨hx, hb, hml, hown, hts⟩ := id X
  unfold f_X4_markAt_0 at hf
  refine lv_aload_n hx hb dX4_markAt_0 rfl (lv_at hl 0 rfl) ?_
  obtain ⟨ca, hf⟩ := m_chkE hf
  replace ca := z_in hM (by decide) ca
  refine z_get (k := 4) (j := 5) (C := RX4) (T := TX4) (N := 7) (fl := zf_4) (v := .int (zI S 5 x0)) X hw_X4_markAt_4 hM rfl zc_4 ca (by decide) fl_X4_markAt_4_5 rfl dX4_markAt_1 ?_
  clear ca
  refine lv_bipush (v := (8 : Int32)) hx hb dX4_markAt_4 (by decide) ?_
  refine lv_iload_n hx hb dX4_markAt_6 rfl (lv_at hl 1 rfl) ?_
  refine lv_imul hx hb dX4_markAt_7 ?_
  obtain ⟨v1, ev, hf⟩ := m_bndE hf
  refine m_top ev ?_
  clear ev
  refine lv_iushr (v := (((zI S 5 x0)).toUInt32 >>> ((v1).toUInt32 &&& Int32.toUInt32 31)).toInt32) hx hb dX4_markAt_8 rfl ?_
  obtain ⟨v2, ev, hf⟩ := m_bndE hf
  refine m_top ev ?_
  clear ev
  refine lv_sipush (v := (255 : Int32)) hx hb dX4_markAt_9 (by decide) ?_
  refine lv_iand hx hb dX4_markAt_12 ?_
  obtain ⟨v3, ev, hf⟩ := m_bndE hf
  refine m_top ev ?_
  clear ev
  cases hf
  exact hret H locs _ ls hM rfl dX4_markAt_13
noncomputable def f_X4_markAt (x0 : Nat) (x1 : Int32) (S : ZS) : Option (Int32 × ZS) := f_X4_markAt_0 x0 x1 S
theorem c_X4_markAt {l : Launch} {D : va_G} {y : Nat → ClassId} {x0 : Nat} {x1 : Int32} {S : ZS} {o : Int32 × ZS} (hf : f_X4_markAt x0 x1 S = some o) : zMi l yX4_markAt wsX4_markAt ({ frames := 0, cells := 0, slots := 0, locals := 0 } : Room) [.ref (zh y x0), .int x1] D y S o :=
  z_entryI (own := RX4) (cc := cX4_markAt) (maxL := 2) (by decide) rfl rfl (Nat.le_of_ble_eq_true rfl) (fun p e s m args below meth c A0 Q H locs ls X hret hM hl => w_X4_markAt_0 X hret hf hM (lv_sub hl [0, 1] rfl))
theorem hd_X3_putMove : yX3_putMove.cls = RX3 ∧ yX3_putMove.cls ≠ "java/lang/invoke/MethodHandle" ∧ yX3_putMove.cls ≠ "java/lang/invoke/VarHandle" ∧ (parseMethodDescriptor yX3_putMove.desc).map (fun d => d.parameters.length) = some 4 := by decide +kernel
theorem fl_X3_putMove_0_3 : Cond.fieldLink RX3 129 "MoveTexts$Board" "side" "I" ∈ wsX3_putMove := by decide +kernel
theorem fl_X3_putMove_0_6 : Cond.fieldLink RX3 132 "MoveTexts$Board" "number" "I" ∈ wsX3_putMove := by decide +kernel
theorem fl_X3_putMove_3_0 : Cond.fieldLink RX3 12 "MoveTexts$GameWriter" "signWriter" "LMoveTexts$SignWriter;" ∈ wsX3_putMove := by decide +kernel
theorem fl_X3_putMove_4_1 : Cond.fieldLink RX3 119 "MoveTexts$Node" "move" "I" ∈ wsX3_putMove := by decide +kernel
theorem fl_X3_putMove_4_4 : Cond.fieldLink RX3 146 "MoveTexts$Node" "markCount" "I" ∈ wsX3_putMove := by decide +kernel
theorem hw_X3_putMove_0 : ∀ w ∈ wsX00, w ∈ wsX3_putMove := by decide +kernel
theorem hw_X3_putMove_3 : ∀ w ∈ wsX30, w ∈ wsX3_putMove := by decide +kernel
theorem hw_X3_putMove_4 : ∀ w ∈ wsX40, w ∈ wsX3_putMove := by decide +kernel
theorem sr_X3_putMove_138 : (RX3, 138, ".", 13) ∈ zSR := by decide +kernel
theorem sr_X3_putMove_140 : (RX3, 140, "...", 14) ∈ zSR := by decide +kernel
noncomputable def g_X3_putMove_66s (Pw : Int32 → ZS → Prop) (self66 : Nat → Nat → Int32 → ZS → Nat → Nat → Prop) (x2 : Nat) (x4 : Nat) (x5 : Int32) (S : ZS) (C T : Nat) : Prop :=
  m_chkQ (zK S x2 = 4) (
  m_ifQ ((zI S 4 x2) ≤ x5) (
  m_gal (C) (T) (fun mc ms Pw => g_X3_putRemark x2 x4 S mc ms Pw) (fun r2 S3 C4 T5 =>
  Pw 0 S3)
  ) (
  m_gal (C) (T) (fun mc ms Pw => g_X3_putGap x4 S mc ms Pw) (fun r7 S8 C9 T10 =>
  m_chkQ (zK S8 x4 = 6) (
  m_gal (C9) (T10) (fun mc ms Pw => g_X6_put x4 (36 : Int32) S8 mc ms Pw) (fun r12 S13 C14 T15 =>
  m_chkQ (zK S13 x2 = 4) (
  m_calP (f_X4_markAt x2 x5 S13) (fun o16 =>
  m_chkQ (zK o16.2 x4 = 6) (
  m_gal (C14) (T15) (fun mc ms Pw => g_X6_putNumber x4 o16.1 o16.2 mc ms Pw) (fun r18 S19 C20 T21 =>
  m_bndP (x5 + (1 : Int32)) (fun v22 =>
  self66 x2 x4 v22 S19 (C20) (T21)))))))))
  ))

set_option maxRecDepth 100000 in
set_option maxHeartbeats 4000000 in
theorem ws_X3_putMove_66 {p : Program} {l : Launch} {e : Env} {s : State} {m : MethodId} {args : Array Value} {below : List Frame} {meth : Method} {c : Code} {Q : State → Prop} {D : va_G} {y : Nat → ClassId} {A0 : Nat → Prop} {kc kt : Nat} {Pw : Int32 → ZS → Prop} (X : CallFix p m c cX3_putMove 6 s args wsX3_putMove RX3) (hret : zQv p l e ({ frames := 6, cells := kc, slots := kt, locals := 160 } : Room) s m args below meth c Q cX3_putMove D y A0 Pw) {self66 : Nat → Nat → Int32 → ZS → Nat → Nat → Prop} (hself66 : ∀ (x2 : Nat) (x4 : Nat) (x5 : Int32) (S : ZS) (C T : Nat) (H : Heap) (locs : List Loc) (ls : Array Slot), self66 x2 x4 x5 S C T → C ≤ kc ∧ T ≤ kt → zH D y A0 s H locs S → lv_has ls 6 [(2, .ref (zh y x2)), (4, .ref (zh y x4)), (5, .int x5)] → W p l e ({ frames := 6, cells := kc, slots := kt, locals := 160 } : Room) s m args below meth c H locs (kc - C) (kt - T) Q (F0 m 66 ls [])) {x2 : Nat} {x4 : Nat} {x5 : Int32} {S : ZS} {C T : Nat} {H : Heap} {locs : List Loc} {ls : Array Slot} (hf : g_X3_putMove_66s Pw self66 x2 x4 x5 S C T) (hCT : C ≤ kc ∧ T ≤ kt) (hM : zH D y A0 s H locs S) (hl : lv_has ls 6 [(2, .ref (zh y x2)), (4, .ref (zh y x4)), (5, .int x5)]) : W p l e ({ frames := 6, cells := kc, slots := kt, locals := 160 } : Room) s m args below meth c H locs (kc - C) (kt - T) Q (F0 m 66 ls []) := by
  obtain ⟨hx, hb, hml, hown, hts⟩ := id X
  unfold g_X3_putMove_66s at hf
  refine lv_iload hx hb dX3_putMove_66 (lv_at hl 2 rfl) ?_
  refine lv_aload_n hx hb dX3_putMove_68 rfl (lv_at hl 0 rfl) ?_
  obtain ⟨ca, hf⟩ := m_chkPE hf
  replace ca := z_in hM (by decide) ca
  refine z_get (k := 4) (j := 4) (C := RX4) (T := TX4) (N := 7) (fl := zf_4) (v := .int (zI S 4 x2)) X hw_X3_putMove_4 hM rfl zc_4 ca (by decide) fl_X3_putMove_4_4 rfl dX3_putMove_69 ?_
  clear ca
  refine lv_icmp_ge (tgt := 104) hx hb dX3_putMove_72 (by decide) (fun cc1 => ?_) (fun cc1 => ?_)
  · replace hf := m_ifPT hf cc1
    refine lv_aload_n hx hb dX3_putMove_104 rfl (lv_at hl 0 rfl) ?_
    refine lv_aload hx hb dX3_putMove_105 (lv_at hl 1 rfl) ?_
    obtain ⟨mc, ms, hcm, ho⟩ := m_galE hf
    refine z_wcallSv X hM (c_X3_putRemark ho) gX3_putMove_X3_putRemark rfl ⟨rfl, rfl⟩ ⟨by show kc - (C) + mc ≤ kc; omega, by show kt - (T) + ms ≤ kt; omega⟩ hd_X3_putRemark ⟨Nat.le_of_ble_eq_true rfl, Nat.le_of_ble_eq_true rfl⟩ rfl hl.1 rfl (Nat.le_of_ble_eq_true rfl) dX3_putMove_107 (fun S3 H locs hf hM => ?_)
    refine z_eqCS (c2 := kc - (C - mc)) (t2 := kt - (T - ms)) (by omega) (by omega) ?_
    replace hCT : C - mc ≤ kc ∧ T - ms ≤ kt := by omega
    generalize C - mc = C4 at hf hCT ⊢
    generalize T - ms = T5 at hf hCT ⊢
    clear ho hcm
    exact hret _ _ _ H locs _ ls hf hM dX3_putMove_110
  · replace hf := m_ifPF hf cc1
    refine lv_aload hx hb dX3_putMove_75 (lv_at hl 1 rfl) ?_
    obtain ⟨mc, ms, hcm, ho⟩ := m_galE hf
    refine z_wcallSv X hM (c_X3_putGap ho) gX3_putMove_X3_putGap rfl ⟨rfl, rfl⟩ ⟨by show kc - (C) + mc ≤ kc; omega, by show kt - (T) + ms ≤ kt; omega⟩ hd_X3_putGap ⟨Nat.le_of_ble_eq_true rfl, Nat.le_of_ble_eq_true rfl⟩ rfl hl.1 rfl (Nat.le_of_ble_eq_true rfl) dX3_putMove_77 (fun S8 H locs hf hM => ?_)
    refine z_eqCS (c2 := kc - (C - mc)) (t2 := kt - (T - ms)) (by omega) (by omega) ?_
    replace hCT : C - mc ≤ kc ∧ T - ms ≤ kt := by omega
    generalize C - mc = C9 at hf hCT ⊢
    generalize T - ms = T10 at hf hCT ⊢
    clear ho hcm
    refine lv_aload hx hb dX3_putMove_80 (lv_at hl 1 rfl) ?_
    refine lv_bipush (v := (36 : Int32)) hx hb dX3_putMove_82 (by decide) ?_
    obtain ⟨ca, hf⟩ := m_chkPE hf
    replace ca := z_in hM (by decide) ca
    obtain ⟨mc, ms, hcm, ho⟩ := m_galE hf
    refine z_wcallVv (k := 6) (C := RX6) (T := TX6) (N := 2) (fl := zf_6) X hM rfl zc_6 ca (c_X6_put ho) gX3_putMove_X6_put rfl ⟨rfl, rfl⟩ ⟨by show kc - (C9) + mc ≤ kc; omega, by show kt - (T10) + ms ≤ kt; omega⟩ hd_X6_put ⟨Nat.le_of_ble_eq_true rfl, Nat.le_of_ble_eq_true rfl⟩ rfl hl.1 rfl (Nat.le_of_ble_eq_true rfl) dX3_putMove_84 (fun S13 H locs hf hM => ?_)
    refine z_eqCS (c2 := kc - (C9 - mc)) (t2 := kt - (T10 - ms)) (by omega) (by omega) ?_
    replace hCT : C9 - mc ≤ kc ∧ T10 - ms ≤ kt := by omega
    generalize C9 - mc = C14 at hf hCT ⊢
    generalize T10 - ms = T15 at hf hCT ⊢
    clear ho hcm
    refine lv_aload hx hb dX3_putMove_87 (lv_at hl 1 rfl) ?_
    refine lv_aload_n hx hb dX3_putMove_89 rfl (lv_at hl 0 rfl) ?_
    refine lv_iload hx hb dX3_putMove_90 (lv_at hl 2 rfl) ?_
    obtain ⟨ca, hf⟩ := m_chkPE hf
    replace ca := z_in hM (by decide) ca
    obtain ⟨o16, ho, hf⟩ := m_calPE hf
    refine z_gcallVi (k := 4) (C := RX4) (T := TX4) (N := 7) (fl := zf_4) X hM rfl zc_4 ca (c_X4_markAt ho) gX3_putMove_X4_markAt rfl ⟨rfl, rfl⟩ hd_X4_markAt ⟨Nat.le_of_ble_eq_true rfl, Nat.le_of_ble_eq_true rfl⟩ rfl hl.1 rfl ⟨Nat.sub_le _ _, Nat.sub_le _ _⟩ (Nat.le_of_ble_eq_true rfl) dX3_putMove_92 (fun H locs hM => ?_)
    clear ho
    obtain ⟨ca, hf⟩ := m_chkPE hf
    replace ca := z_in hM (by decide) ca
    obtain ⟨mc, ms, hcm, ho⟩ := m_galE hf
    refine z_wcallVv (k := 6) (C := RX6) (T := TX6) (N := 2) (fl := zf_6) X hM rfl zc_6 ca (c_X6_putNumber ho) gX3_putMove_X6_putNumber rfl ⟨rfl, rfl⟩ ⟨by show kc - (C14) + mc ≤ kc; omega, by show kt - (T15) + ms ≤ kt; omega⟩ hd_X6_putNumber ⟨Nat.le_of_ble_eq_true rfl, Nat.le_of_ble_eq_true rfl⟩ rfl hl.1 rfl (Nat.le_of_ble_eq_true rfl) dX3_putMove_95 (fun S19 H locs hf hM => ?_)
    refine z_eqCS (c2 := kc - (C14 - mc)) (t2 := kt - (T15 - ms)) (by omega) (by omega) ?_
    replace hCT : C14 - mc ≤ kc ∧ T15 - ms ≤ kt := by omega
    generalize C14 - mc = C20 at hf hCT ⊢
    generalize T15 - ms = T21 at hf hCT ⊢
    clear ho hcm
    obtain ⟨v22, ev, hf⟩ := m_bndPE hf
    refine lv_iinc (v := v22) (lv' := [(5, .int v22), (2, .ref (zh y x2)), (4, .ref (zh y x4))]) hx hb dX3_putMove_98 hl (k := 2) rfl (by rw [ev]; rfl) (by decide) rfl (fun ls hl => ?_)
    clear ev
    refine lv_goto (tgt := 66) hx hb dX3_putMove_101 (by decide) ?_
    exact hself66 x2 x4 v22 _ _ _ _ _ _ hf hCT hM (lv_sub hl [1, 2, 0] rfl)
noncomputable def g_X3_putMove_66 (Pw : Int32 → ZS → Prop) : Nat → Nat → Nat → Int32 → ZS → Nat → Nat → Prop
  | 0 => fun _ _ _ _ _ _ => False
  | n + 1 => g_X3_putMove_66s Pw (g_X3_putMove_66 Pw n)
theorem w_X3_putMove_66 {p : Program} {l : Launch} {e : Env} {s : State} {m : MethodId} {args : Array Value} {below : List Frame} {meth : Method} {c : Code} {Q : State → Prop} {D : va_G} {y : Nat → ClassId} {A0 : Nat → Prop} {kc kt : Nat} {Pw : Int32 → ZS → Prop} (X : CallFix p m c cX3_putMove 6 s args wsX3_putMove RX3) (hret : zQv p l e ({ frames := 6, cells := kc, slots := kt, locals := 160 } : Room) s m args below meth c Q cX3_putMove D y A0 Pw) (n : Nat) : ∀ (x2 : Nat) (x4 : Nat) (x5 : Int32) (S : ZS) (C T : Nat) (H : Heap) (locs : List Loc) (ls : Array Slot), g_X3_putMove_66 Pw n x2 x4 x5 S C T → C ≤ kc ∧ T ≤ kt → zH D y A0 s H locs S → lv_has ls 6 [(2, .ref (zh y x2)), (4, .ref (zh y x4)), (5, .int x5)] → W p l e ({ frames := 6, cells := kc, slots := kt, locals := 160 } : Room) s m args below meth c H locs (kc - C) (kt - T) Q (F0 m 66 ls []) := by
  induction n with
  | zero => intro x2 x4 x5 S C T H locs ls hf; exact absurd hf id
  | succ n ih => intro x2 x4 x5 S C T H locs ls hf hCT hM hl; exact ws_X3_putMove_66 X hret (self66 := g_X3_putMove_66 Pw n) ih hf hCT hM hl
noncomputable def g_X3_putMove_44 (Pw : Int32 → ZS → Prop) (x0 : Nat) (x1 : Nat) (x2 : Nat) (x4 : Nat) (S : ZS) (C T : Nat) : Prop :=
  m_gal (C) (T) (fun mc ms Pw => g_X3_putGap x4 S mc ms Pw) (fun r2 S3 C4 T5 =>
  m_chkQ (zK S3 x0 = 3) (
  m_calP (zP S3 0 x0) (fun b6 =>
  m_chkQ (zK S3 x2 = 4) (
  m_chkQ (zK S3 b6 = 9) (
  m_gal (C4) (T5) (fun mc ms Pw => g_X9_putSigns b6 x1 (zI S3 1 x2) x4 S3 mc ms Pw) (fun r8 S9 C10 T11 =>
  g_X3_putMove_66 Pw mFuel x2 x4 (0 : Int32) S9 (C10) (T11)))))))

set_option maxRecDepth 100000 in
set_option maxHeartbeats 4000000 in
theorem w_X3_putMove_44 {p : Program} {l : Launch} {e : Env} {s : State} {m : MethodId} {args : Array Value} {below : List Frame} {meth : Method} {c : Code} {Q : State → Prop} {D : va_G} {y : Nat → ClassId} {A0 : Nat → Prop} {kc kt : Nat} {Pw : Int32 → ZS → Prop} (X : CallFix p m c cX3_putMove 6 s args wsX3_putMove RX3) (hret : zQv p l e ({ frames := 6, cells := kc, slots := kt, locals := 160 } : Room) s m args below meth c Q cX3_putMove D y A0 Pw) {x0 : Nat} {x1 : Nat} {x2 : Nat} {x4 : Nat} {S : ZS} {C T : Nat} {H : Heap} {locs : List Loc} {ls : Array Slot} (hf : g_X3_putMove_44 Pw x0 x1 x2 x4 S C T) (hCT : C ≤ kc ∧ T ≤ kt) (hM : zH D y A0 s H locs S) (hl : lv_has ls 6 [(0, .ref (zh y x0)), (1, .ref (zh y x1)), (2, .ref (zh y x2)), (4, .ref (zh y x4))]) : W p l e ({ frames := 6, cells := kc, slots := kt, locals := 160 } : Room) s m args below meth c H locs (kc - C) (kt - T) Q (F0 m 44 ls []) := by
  obtain ⟨hx, hb, hml, hown, hts⟩ := id X
  unfold g_X3_putMove_44 at hf
  refine lv_aload hx hb dX3_putMove_44 (lv_at hl 3 rfl) ?_
  obtain ⟨mc, ms, hcm, ho⟩ := m_galE hf
  refine z_wcallSv X hM (c_X3_putGap ho) gX3_putMove_X3_putGap rfl ⟨rfl, rfl⟩ ⟨by show kc - (C) + mc ≤ kc; omega, by show kt - (T) + ms ≤ kt; omega⟩ hd_X3_putGap ⟨Nat.le_of_ble_eq_true rfl, Nat.le_of_ble_eq_true rfl⟩ rfl hl.1 rfl (Nat.le_of_ble_eq_true rfl) dX3_putMove_46 (fun S3 H locs hf hM => ?_)
  refine z_eqCS (c2 := kc - (C - mc)) (t2 := kt - (T - ms)) (by omega) (by omega) ?_
  replace hCT : C - mc ≤ kc ∧ T - ms ≤ kt := by omega
  generalize C - mc = C4 at hf hCT ⊢
  generalize T - ms = T5 at hf hCT ⊢
  clear ho hcm
  refine lv_aload_n hx hb dX3_putMove_49 rfl (lv_at hl 0 rfl) ?_
  obtain ⟨ca, hf⟩ := m_chkPE hf
  replace ca := z_in hM (by decide) ca
  refine z_get (k := 3) (j := 0) (C := RX3) (T := TX3) (N := 2) (fl := zf_3) (v := va_rf ((zP S3 0 x0).map (zh y))) X hw_X3_putMove_3 hM rfl zc_3 ca (by decide) fl_X3_putMove_3_0 rfl dX3_putMove_50 ?_
  clear ca
  obtain ⟨b6, hb9, hf⟩ := m_calPE hf
  refine z_topr hb9 ?_
  clear hb9
  refine lv_aload_n hx hb dX3_putMove_53 rfl (lv_at hl 1 rfl) ?_
  refine lv_aload_n hx hb dX3_putMove_54 rfl (lv_at hl 2 rfl) ?_
  obtain ⟨ca, hf⟩ := m_chkPE hf
  replace ca := z_in hM (by decide) ca
  refine z_get (k := 4) (j := 1) (C := RX4) (T := TX4) (N := 7) (fl := zf_4) (v := .int (zI S3 1 x2)) X hw_X3_putMove_4 hM rfl zc_4 ca (by decide) fl_X3_putMove_4_1 rfl dX3_putMove_55 ?_
  clear ca
  refine lv_aload hx hb dX3_putMove_58 (lv_at hl 3 rfl) ?_
  obtain ⟨ca, hf⟩ := m_chkPE hf
  replace ca := z_in hM (by decide) ca
  obtain ⟨mc, ms, hcm, ho⟩ := m_galE hf
  refine z_wcallVv (k := 9) (C := RX9) (T := TX9) (N := 1) (fl := zf_9) X hM rfl zc_9 ca (c_X9_putSigns ho) gX3_putMove_X9_putSigns rfl ⟨rfl, rfl⟩ ⟨by show kc - (C4) + mc ≤ kc; omega, by show kt - (T5) + ms ≤ kt; omega⟩ hd_X9_putSigns ⟨Nat.le_of_ble_eq_true rfl, Nat.le_of_ble_eq_true rfl⟩ rfl hl.1 rfl (Nat.le_of_ble_eq_true rfl) dX3_putMove_60 (fun S9 H locs hf hM => ?_)
  refine z_eqCS (c2 := kc - (C4 - mc)) (t2 := kt - (T5 - ms)) (by omega) (by omega) ?_
  replace hCT : C4 - mc ≤ kc ∧ T5 - ms ≤ kt := by omega
  generalize C4 - mc = C10 at hf hCT ⊢
  generalize T5 - ms = T11 at hf hCT ⊢
  clear ho hcm
  refine lv_iconst (v := (0 : Int32)) hx hb dX3_putMove_63 (by decide) ?_
  refine lv_istore (lv' := [(5, .int (0 : Int32)), (0, .ref (zh y x0)), (1, .ref (zh y x1)), (2, .ref (zh y x2)), (4, .ref (zh y x4))]) hx hb dX3_putMove_64 hl (by decide) rfl (fun ls hl => ?_)
  exact w_X3_putMove_66 X hret _ x2 x4 (0 : Int32) _ _ _ _ _ _ hf hCT hM (lv_sub hl [3, 4, 0] rfl)
noncomputable def g_X3_putMove_41 (Pw : Int32 → ZS → Prop) (x0 : Nat) (x1 : Nat) (x2 : Nat) (x4 : Nat) (t0 : Nat) (t1 : Nat) (S : ZS) (C T : Nat) : Prop :=
  m_chkQ (zK S t1 = 6) (
  m_gal (C) (T) (fun mc ms Pw => g_X6_putText t1 t0 S mc ms Pw) (fun r2 S3 C4 T5 =>
  g_X3_putMove_44 Pw x0 x1 x2 x4 S3 (C4) (T5)))

set_option maxRecDepth 100000 in
set_option maxHeartbeats 4000000 in
theorem w_X3_putMove_41 {p : Program} {l : Launch} {e : Env} {s : State} {m : MethodId} {args : Array Value} {below : List Frame} {meth : Method} {c : Code} {Q : State → Prop} {D : va_G} {y : Nat → ClassId} {A0 : Nat → Prop} {kc kt : Nat} {Pw : Int32 → ZS → Prop} (X : CallFix p m c cX3_putMove 6 s args wsX3_putMove RX3) (hret : zQv p l e ({ frames := 6, cells := kc, slots := kt, locals := 160 } : Room) s m args below meth c Q cX3_putMove D y A0 Pw) {x0 : Nat} {x1 : Nat} {x2 : Nat} {x4 : Nat} {t0 : Nat} {t1 : Nat} {S : ZS} {C T : Nat} {H : Heap} {locs : List Loc} {ls : Array Slot} (hf : g_X3_putMove_41 Pw x0 x1 x2 x4 t0 t1 S C T) (hCT : C ≤ kc ∧ T ≤ kt) (hM : zH D y A0 s H locs S) (hl : lv_has ls 6 [(0, .ref (zh y x0)), (1, .ref (zh y x1)), (2, .ref (zh y x2)), (4, .ref (zh y x4))]) : W p l e ({ frames := 6, cells := kc, slots := kt, locals := 160 } : Room) s m args below meth c H locs (kc - C) (kt - T) Q (F0 m 41 ls [.ref (y (100 + t0)), .ref (zh y t1)]) := by
  obtain ⟨hx, hb, hml, hown, hts⟩ := id X
  unfold g_X3_putMove_41 at hf
  obtain ⟨ca, hf⟩ := m_chkPE hf
  replace ca := z_in hM (by decide) ca
  obtain ⟨mc, ms, hcm, ho⟩ := m_galE hf
  refine z_wcallVv (k := 6) (C := RX6) (T := TX6) (N := 2) (fl := zf_6) X hM rfl zc_6 ca (c_X6_putText ho) gX3_putMove_X6_putText rfl ⟨rfl, rfl⟩ ⟨by show kc - (C) + mc ≤ kc; omega, by show kt - (T) + ms ≤ kt; omega⟩ hd_X6_putText ⟨Nat.le_of_ble_eq_true rfl, Nat.le_of_ble_eq_true rfl⟩ rfl hl.1 rfl (Nat.le_of_ble_eq_true rfl) dX3_putMove_41 (fun S3 H locs hf hM => ?_)
  refine z_eqCS (c2 := kc - (C - mc)) (t2 := kt - (T - ms)) (by omega) (by omega) ?_
  replace hCT : C - mc ≤ kc ∧ T - ms ≤ kt := by omega
  generalize C - mc = C4 at hf hCT ⊢
  generalize T - ms = T5 at hf hCT ⊢
  clear ho hcm
  exact w_X3_putMove_44 (x0 := x0) (x1 := x1) (x2 := x2) (x4 := x4) X hret hf hCT hM (lv_sub hl [0, 1, 2, 3] rfl)
noncomputable def g_X3_putMove_11 (Pw : Int32 → ZS → Prop) (x0 : Nat) (x1 : Nat) (x2 : Nat) (x4 : Nat) (S : ZS) (C T : Nat) : Prop :=
  m_gal (C) (T) (fun mc ms Pw => g_X3_putGap x4 S mc ms Pw) (fun r2 S3 C4 T5 =>
  m_chkQ (zK S3 x1 = 0) (
  m_chkQ (zK S3 x4 = 6) (
  m_gal (C4) (T5) (fun mc ms Pw => g_X6_putNumber x4 (zI S3 6 x1) S3 mc ms Pw) (fun r7 S8 C9 T10 =>
  m_chkQ (zK S8 x1 = 0) (
  m_ifQ ((zI S8 3 x1) = 0) (
  g_X3_putMove_41 Pw x0 x1 x2 x4 13 x4 S8 (C9) (T10)
  ) (
  g_X3_putMove_41 Pw x0 x1 x2 x4 14 x4 S8 (C9) (T10)
  ))))))

set_option maxRecDepth 100000 in
set_option maxHeartbeats 4000000 in
theorem w_X3_putMove_11 {p : Program} {l : Launch} {e : Env} {s : State} {m : MethodId} {args : Array Value} {below : List Frame} {meth : Method} {c : Code} {Q : State → Prop} {D : va_G} {y : Nat → ClassId} {A0 : Nat → Prop} {kc kt : Nat} {Pw : Int32 → ZS → Prop} (X : CallFix p m c cX3_putMove 6 s args wsX3_putMove RX3) (hret : zQv p l e ({ frames := 6, cells := kc, slots := kt, locals := 160 } : Room) s m args below meth c Q cX3_putMove D y A0 Pw) {x0 : Nat} {x1 : Nat} {x2 : Nat} {x4 : Nat} {S : ZS} {C T : Nat} {H : Heap} {locs : List Loc} {ls : Array Slot} (hf : g_X3_putMove_11 Pw x0 x1 x2 x4 S C T) (hCT : C ≤ kc ∧ T ≤ kt) (hM : zH D y A0 s H locs S) (hl : lv_has ls 6 [(0, .ref (zh y x0)), (1, .ref (zh y x1)), (2, .ref (zh y x2)), (4, .ref (zh y x4))]) : W p l e ({ frames := 6, cells := kc, slots := kt, locals := 160 } : Room) s m args below meth c H locs (kc - C) (kt - T) Q (F0 m 11 ls []) := by
  obtain ⟨hx, hb, hml, hown, hts⟩ := id X
  unfold g_X3_putMove_11 at hf
  refine lv_aload hx hb dX3_putMove_11 (lv_at hl 3 rfl) ?_
  obtain ⟨mc, ms, hcm, ho⟩ := m_galE hf
  refine z_wcallSv X hM (c_X3_putGap ho) gX3_putMove_X3_putGap rfl ⟨rfl, rfl⟩ ⟨by show kc - (C) + mc ≤ kc; omega, by show kt - (T) + ms ≤ kt; omega⟩ hd_X3_putGap ⟨Nat.le_of_ble_eq_true rfl, Nat.le_of_ble_eq_true rfl⟩ rfl hl.1 rfl (Nat.le_of_ble_eq_true rfl) dX3_putMove_13 (fun S3 H locs hf hM => ?_)
  refine z_eqCS (c2 := kc - (C - mc)) (t2 := kt - (T - ms)) (by omega) (by omega) ?_
  replace hCT : C - mc ≤ kc ∧ T - ms ≤ kt := by omega
  generalize C - mc = C4 at hf hCT ⊢
  generalize T - ms = T5 at hf hCT ⊢
  clear ho hcm
  refine lv_aload hx hb dX3_putMove_16 (lv_at hl 3 rfl) ?_
  refine lv_aload_n hx hb dX3_putMove_18 rfl (lv_at hl 1 rfl) ?_
  obtain ⟨ca, hf⟩ := m_chkPE hf
  replace ca := z_in hM (by decide) ca
  refine z_get (k := 0) (j := 6) (C := RX0) (T := TX0) (N := 7) (fl := zf_0) (v := .int (zI S3 6 x1)) X hw_X3_putMove_0 hM rfl zc_0 ca (by decide) fl_X3_putMove_0_6 rfl dX3_putMove_19 ?_
  clear ca
  obtain ⟨ca, hf⟩ := m_chkPE hf
  replace ca := z_in hM (by decide) ca
  obtain ⟨mc, ms, hcm, ho⟩ := m_galE hf
  refine z_wcallVv (k := 6) (C := RX6) (T := TX6) (N := 2) (fl := zf_6) X hM rfl zc_6 ca (c_X6_putNumber ho) gX3_putMove_X6_putNumber rfl ⟨rfl, rfl⟩ ⟨by show kc - (C4) + mc ≤ kc; omega, by show kt - (T5) + ms ≤ kt; omega⟩ hd_X6_putNumber ⟨Nat.le_of_ble_eq_true rfl, Nat.le_of_ble_eq_true rfl⟩ rfl hl.1 rfl (Nat.le_of_ble_eq_true rfl) dX3_putMove_22 (fun S8 H locs hf hM => ?_)
  refine z_eqCS (c2 := kc - (C4 - mc)) (t2 := kt - (T5 - ms)) (by omega) (by omega) ?_
  replace hCT : C4 - mc ≤ kc ∧ T5 - ms ≤ kt := by omega
  generalize C4 - mc = C9 at hf hCT ⊢
  generalize T5 - ms = T10 at hf hCT ⊢
  clear ho hcm
  refine lv_aload hx hb dX3_putMove_25 (lv_at hl 3 rfl) ?_
  refine lv_aload_n hx hb dX3_putMove_27 rfl (lv_at hl 1 rfl) ?_
  obtain ⟨ca, hf⟩ := m_chkPE hf
  replace ca := z_in hM (by decide) ca
  refine z_get (k := 0) (j := 3) (C := RX0) (T := TX0) (N := 7) (fl := zf_0) (v := .int (zI S8 3 x1)) X hw_X3_putMove_0 hM rfl zc_0 ca (by decide) fl_X3_putMove_0_3 rfl dX3_putMove_28 ?_
  clear ca
  refine lv_if_ne (tgt := 39) hx hb dX3_putMove_31 (by decide) (fun cc1 => ?_) (fun cc1 => ?_)
  · replace hf := m_ifPF hf cc1
    refine z_ldcS X hM sr_X3_putMove_140 dX3_putMove_39 ?_
    exact w_X3_putMove_41 (x0 := x0) (x1 := x1) (x2 := x2) (x4 := x4) (t0 := 14) (t1 := x4) X hret hf hCT hM (lv_sub hl [0, 1, 2, 3] rfl)
  · replace hf := m_ifPT hf cc1
    refine z_ldcS X hM sr_X3_putMove_138 dX3_putMove_34 ?_
    refine lv_goto (tgt := 41) hx hb dX3_putMove_36 (by decide) ?_
    exact w_X3_putMove_41 (x0 := x0) (x1 := x1) (x2 := x2) (x4 := x4) (t0 := 13) (t1 := x4) X hret hf hCT hM (lv_sub hl [0, 1, 2, 3] rfl)
noncomputable def g_X3_putMove_0 (Pw : Int32 → ZS → Prop) (x0 : Nat) (x1 : Nat) (x2 : Nat) (x3 : Int32) (x4 : Nat) (S : ZS) (C T : Nat) : Prop :=
  m_chkQ (zK S x1 = 0) (
  m_ifQ ((zI S 3 x1) = 0) (
  g_X3_putMove_11 Pw x0 x1 x2 x4 S (C) (T)
  ) (
  m_ifQ (x3 = 0) (
  g_X3_putMove_44 Pw x0 x1 x2 x4 S (C) (T)
  ) (
  g_X3_putMove_11 Pw x0 x1 x2 x4 S (C) (T)
  )
  ))

set_option maxRecDepth 100000 in
set_option maxHeartbeats 4000000 in
theorem w_X3_putMove_0 {p : Program} {l : Launch} {e : Env} {s : State} {m : MethodId} {args : Array Value} {below : List Frame} {meth : Method} {c : Code} {Q : State → Prop} {D : va_G} {y : Nat → ClassId} {A0 : Nat → Prop} {kc kt : Nat} {Pw : Int32 → ZS → Prop} (X : CallFix p m c cX3_putMove 6 s args wsX3_putMove RX3) (hret : zQv p l e ({ frames := 6, cells := kc, slots := kt, locals := 160 } : Room) s m args below meth c Q cX3_putMove D y A0 Pw) {x0 : Nat} {x1 : Nat} {x2 : Nat} {x3 : Int32} {x4 : Nat} {S : ZS} {C T : Nat} {H : Heap} {locs : List Loc} {ls : Array Slot} (hf : g_X3_putMove_0 Pw x0 x1 x2 x3 x4 S C T) (hCT : C ≤ kc ∧ T ≤ kt) (hM : zH D y A0 s H locs S) (hl : lv_has ls 6 [(0, .ref (zh y x0)), (1, .ref (zh y x1)), (2, .ref (zh y x2)), (3, .int x3), (4, .ref (zh y x4))]) : W p l e ({ frames := 6, cells := kc, slots := kt, locals := 160 } : Room) s m args below meth c H locs (kc - C) (kt - T) Q (F0 m 0 ls []) := by
  obtain ⟨hx, hb, hml, hown, hts⟩ := id X
  unfold g_X3_putMove_0 at hf
  refine lv_aload_n hx hb dX3_putMove_0 rfl (lv_at hl 1 rfl) ?_
  obtain ⟨ca, hf⟩ := m_chkPE hf
  replace ca := z_in hM (by decide) ca
  refine z_get (k := 0) (j := 3) (C := RX0) (T := TX0) (N := 7) (fl := zf_0) (v := .int (zI S 3 x1)) X hw_X3_putMove_0 hM rfl zc_0 ca (by decide) fl_X3_putMove_0_3 rfl dX3_putMove_1 ?_
  clear ca
  refine lv_if_eq (tgt := 11) hx hb dX3_putMove_4 (by decide) (fun cc1 => ?_) (fun cc1 => ?_)
  · replace hf := m_ifPT hf cc1
    exact w_X3_putMove_11 (x0 := x0) (x1 := x1) (x2 := x2) (x4 := x4) X hret hf hCT hM (lv_sub hl [0, 1, 2, 4] rfl)
  · replace hf := m_ifPF hf cc1
    refine lv_iload_n hx hb dX3_putMove_7 rfl (lv_at hl 3 rfl) ?_
    refine lv_if_eq (tgt := 44) hx hb dX3_putMove_8 (by decide) (fun cc1 => ?_) (fun cc1 => ?_)
    · replace hf := m_ifPT hf cc1
      exact w_X3_putMove_44 (x0 := x0) (x1 := x1) (x2 := x2) (x4 := x4) X hret hf hCT hM (lv_sub hl [0, 1, 2, 4] rfl)
    · replace hf := m_ifPF hf cc1
      exact w_X3_putMove_11 (x0 := x0) (x1 := x1) (x2 := x2) (x4 := x4) X hret hf hCT hM (lv_sub hl [0, 1, 2, 4] rfl)
noncomputable def g_X3_putMove (x0 : Nat) (x1 : Nat) (x2 : Nat) (x3 : Int32) (x4 : Nat) (S : ZS) (mc ms : Nat) (Pw : Int32 → ZS → Prop) : Prop := g_X3_putMove_0 Pw x0 x1 x2 x3 x4 S mc ms
theorem c_X3_putMove {l : Launch} {D : va_G} {y : Nat → ClassId} {x0 : Nat} {x1 : Nat} {x2 : Nat} {x3 : Int32} {x4 : Nat} {S : ZS} {kc kt : Nat} {Pw : Int32 → ZS → Prop} (hf : g_X3_putMove x0 x1 x2 x3 x4 S kc kt Pw) : zWv l yX3_putMove wsX3_putMove ({ frames := 6, cells := kc, slots := kt, locals := 160 } : Room) [.ref (zh y x0), .ref (zh y x1), .ref (zh y x2), .int x3, .ref (zh y x4)] D y S kc kt Pw :=
  z_wentV (own := RX3) (cc := cX3_putMove) (maxL := 6) (by decide) rfl rfl (Nat.le_of_ble_eq_true rfl) ⟨rfl, rfl⟩ (fun p e s m args below meth c A0 Q H locs ls X hret hM hl => w_X3_putMove_0 X hret hf ⟨Nat.le_refl _, Nat.le_refl _⟩ hM (lv_sub hl [0, 1, 2, 3, 4] rfl))
theorem hd_X3_putLine : yX3_putLine.cls = RX3 ∧ yX3_putLine.cls ≠ "java/lang/invoke/MethodHandle" ∧ yX3_putLine.cls ≠ "java/lang/invoke/VarHandle" ∧ (parseMethodDescriptor yX3_putLine.desc).map (fun d => d.parameters.length) = some 4 := by decide +kernel
theorem fl_X3_putLine_3_1 : Cond.fieldLink RX3 20 "MoveTexts$GameWriter" "boards" "[LMoveTexts$Board;" ∈ wsX3_putLine := by decide +kernel
theorem fl_X3_putLine_4_1 : Cond.fieldLink RX3 119 "MoveTexts$Node" "move" "I" ∈ wsX3_putLine := by decide +kernel
theorem fl_X3_putLine_4_2 : Cond.fieldLink RX3 126 "MoveTexts$Node" "first" "I" ∈ wsX3_putLine := by decide +kernel
theorem fl_X3_putLine_4_3 : Cond.fieldLink RX3 112 "MoveTexts$Node" "next" "I" ∈ wsX3_putLine := by decide +kernel
theorem fl_X3_putLine_4_6 : Cond.fieldLink RX3 99 "MoveTexts$Node" "remark" "LMoveTexts$Row;" ∈ wsX3_putLine := by decide +kernel
theorem hw_X3_putLine_3 : ∀ w ∈ wsX30, w ∈ wsX3_putLine := by decide +kernel
theorem hw_X3_putLine_4 : ∀ w ∈ wsX40, w ∈ wsX3_putLine := by decide +kernel
noncomputable def g_X3_putLine_206 (Pw : Int32 → ZS → Prop) (rec : Nat → Nat → Int32 → Int32 → Nat → ZS → Nat → Nat → (Int32 → ZS → Prop) → Prop) (S : ZS) (C T : Nat) : Prop :=
  Pw 0 S

set_option maxRecDepth 100000 in
set_option maxHeartbeats 4000000 in
theorem w_X3_putLine_206 {p : Program} {l : Launch} {e : Env} {s : State} {m : MethodId} {args : Array Value} {below : List Frame} {meth : Method} {c : Code} {Q : State → Prop} {D : va_G} {y : Nat → ClassId} {A0 : Nat → Prop} {kc kt : Nat} {Pw : Int32 → ZS → Prop} {F Lo Fr Lr : Nat} (hR0 : 7 ≤ F ∧ 185 ≤ Lo) (hR2 : Fr + 1 ≤ F ∧ 8 + (12 + 11) + Lr ≤ Lo) {rec : Nat → Nat → Int32 → Int32 → Nat → ZS → Nat → Nat → (Int32 → ZS → Prop) → Prop} (hrec : ∀ (x0 : Nat) (x1 : Nat) (x2 : Int32) (x3 : Int32) (x4 : Nat) (S : ZS) (mc ms : Nat) (Pw9 : Int32 → ZS → Prop), rec x0 x1 x2 x3 x4 S mc ms Pw9 → zWv l yX3_putLine wsX3_putLine ({ frames := Fr, cells := mc, slots := ms, locals := Lr } : Room) [.ref (zh y x0), .ref (zh y x1), .int x2, .int x3, .ref (zh y x4)] D y S mc ms Pw9) (X : CallFix p m c cX3_putLine 12 s args wsX3_putLine RX3) (hret : zQv p l e ({ frames := F, cells := kc, slots := kt, locals := Lo } : Room) s m args below meth c Q cX3_putLine D y A0 Pw) {S : ZS} {C T : Nat} {H : Heap} {locs : List Loc} {ls : Array Slot} (hf : g_X3_putLine_206 Pw rec  S C T) (hCT : C ≤ kc ∧ T ≤ kt) (hM : zH D y A0 s H locs S) (hl : lv_has ls 12 []) : W p l e ({ frames := F, cells := kc, slots := kt, locals := Lo } : Room) s m args below meth c H locs (kc - C) (kt - T) Q (F0 m 206 ls []) := by
  obtain ⟨hx, hb, hml, hown, hts⟩ := id X
  unfold g_X3_putLine_206 at hf
  exact hret _ _ _ H locs _ ls hf hM dX3_putLine_206
noncomputable def g_X3_putLine_183 (Pw : Int32 → ZS → Prop) (rec : Nat → Nat → Int32 → Int32 → Nat → ZS → Nat → Nat → (Int32 → ZS → Prop) → Prop) (self24 : Nat → Nat → Int32 → Nat → Nat → Int32 → Int32 → Int32 → ZS → Nat → Nat → Prop) (x0 : Nat) (x1 : Nat) (x3 : Int32) (x4 : Nat) (x5 : Nat) (x6 : Int32) (x8 : Int32) (x9 : Nat) (S : ZS) (C T : Nat) : Prop :=
  m_chkQ (zK S x9 = 4) (
  m_chkQ (zK S x5 = 0) (
  m_calP (f_X0_play x5 (zI S 1 x9) S) (fun o1 =>
  m_chkQ (zK o1.2 x9 = 4) (
  m_bndP (x8 + (1 : Int32)) (fun v2 =>
  self24 x0 x1 x3 x4 x5 x6 (zI o1.2 2 x9) v2 o1.2 (C) (T))))))

set_option maxRecDepth 100000 in
set_option maxHeartbeats 4000000 in
theorem w_X3_putLine_183 {p : Program} {l : Launch} {e : Env} {s : State} {m : MethodId} {args : Array Value} {below : List Frame} {meth : Method} {c : Code} {Q : State → Prop} {D : va_G} {y : Nat → ClassId} {A0 : Nat → Prop} {kc kt : Nat} {Pw : Int32 → ZS → Prop} {F Lo Fr Lr : Nat} (hR0 : 7 ≤ F ∧ 185 ≤ Lo) (hR2 : Fr + 1 ≤ F ∧ 8 + (12 + 11) + Lr ≤ Lo) {rec : Nat → Nat → Int32 → Int32 → Nat → ZS → Nat → Nat → (Int32 → ZS → Prop) → Prop} (hrec : ∀ (x0 : Nat) (x1 : Nat) (x2 : Int32) (x3 : Int32) (x4 : Nat) (S : ZS) (mc ms : Nat) (Pw9 : Int32 → ZS → Prop), rec x0 x1 x2 x3 x4 S mc ms Pw9 → zWv l yX3_putLine wsX3_putLine ({ frames := Fr, cells := mc, slots := ms, locals := Lr } : Room) [.ref (zh y x0), .ref (zh y x1), .int x2, .int x3, .ref (zh y x4)] D y S mc ms Pw9) (X : CallFix p m c cX3_putLine 12 s args wsX3_putLine RX3) (hret : zQv p l e ({ frames := F, cells := kc, slots := kt, locals := Lo } : Room) s m args below meth c Q cX3_putLine D y A0 Pw) {self24 : Nat → Nat → Int32 → Nat → Nat → Int32 → Int32 → Int32 → ZS → Nat → Nat → Prop} (hself24 : ∀ (x0 : Nat) (x1 : Nat) (x3 : Int32) (x4 : Nat) (x5 : Nat) (x6 : Int32) (x7 : Int32) (x8 : Int32) (S : ZS) (C T : Nat) (H : Heap) (locs : List Loc) (ls : Array Slot), self24 x0 x1 x3 x4 x5 x6 x7 x8 S C T → C ≤ kc ∧ T ≤ kt → zH D y A0 s H locs S → lv_has ls 12 [(0, .ref (zh y x0)), (1, .ref (zh y x1)), (3, .int x3), (4, .ref (zh y x4)), (5, .ref (zh y x5)), (6, .int x6), (7, .int x7), (8, .int x8)] → W p l e ({ frames := F, cells := kc, slots := kt, locals := Lo } : Room) s m args below meth c H locs (kc - C) (kt - T) Q (F0 m 24 ls [])) {x0 : Nat} {x1 : Nat} {x3 : Int32} {x4 : Nat} {x5 : Nat} {x6 : Int32} {x8 : Int32} {x9 : Nat} {S : ZS} {C T : Nat} {H : Heap} {locs : List Loc} {ls : Array Slot} (hf : g_X3_putLine_183 Pw rec self24 x0 x1 x3 x4 x5 x6 x8 x9 S C T) (hCT : C ≤ kc ∧ T ≤ kt) (hM : zH D y A0 s H locs S) (hl : lv_has ls 12 [(0, .ref (zh y x0)), (1, .ref (zh y x1)), (3, .int x3), (4, .ref (zh y x4)), (5, .ref (zh y x5)), (6, .int x6), (8, .int x8), (9, .ref (zh y x9))]) : W p l e ({ frames := F, cells := kc, slots := kt, locals := Lo } : Room) s m args below meth c H locs (kc - C) (kt - T) Q (F0 m 183 ls []) := by
  obtain ⟨hx, hb, hml, hown, hts⟩ := id X
  unfold g_X3_putLine_183 at hf
  refine lv_aload hx hb dX3_putLine_183 (lv_at hl 4 rfl) ?_
  refine lv_aload hx hb dX3_putLine_185 (lv_at hl 7 rfl) ?_
  obtain ⟨ca, hf⟩ := m_chkPE hf
  replace ca := z_in hM (by decide) ca
  refine z_get (k := 4) (j := 1) (C := RX4) (T := TX4) (N := 7) (fl := zf_4) (v := .int (zI S 1 x9)) X hw_X3_putLine_4 hM rfl zc_4 ca (by decide) fl_X3_putLine_4_1 rfl dX3_putLine_187 ?_
  clear ca
  obtain ⟨ca, hf⟩ := m_chkPE hf
  replace ca := z_in hM (by decide) ca
  obtain ⟨o1, ho, hf⟩ := m_calPE hf
  refine z_gcallVv (k := 0) (C := RX0) (T := TX0) (N := 7) (fl := zf_0) X hM rfl zc_0 ca (c_X0_play ho) gX3_putLine_X0_play rfl ⟨rfl, rfl⟩ hd_X0_play ⟨Nat.le_trans (Nat.le_of_ble_eq_true rfl) hR0.1, Nat.le_trans (Nat.le_of_ble_eq_true rfl) hR0.2⟩ rfl hl.1 rfl ⟨Nat.sub_le _ _, Nat.sub_le _ _⟩ (Nat.le_of_ble_eq_true rfl) dX3_putLine_190 (fun H locs hM => ?_)
  clear ho
  refine lv_aload hx hb dX3_putLine_193 (lv_at hl 7 rfl) ?_
  obtain ⟨ca, hf⟩ := m_chkPE hf
  replace ca := z_in hM (by decide) ca
  refine z_get (k := 4) (j := 2) (C := RX4) (T := TX4) (N := 7) (fl := zf_4) (v := .int (zI o1.2 2 x9)) X hw_X3_putLine_4 hM rfl zc_4 ca (by decide) fl_X3_putLine_4_2 rfl dX3_putLine_195 ?_
  clear ca
  refine lv_istore (lv' := [(7, .int (zI o1.2 2 x9)), (0, .ref (zh y x0)), (1, .ref (zh y x1)), (3, .int x3), (4, .ref (zh y x4)), (5, .ref (zh y x5)), (6, .int x6), (8, .int x8), (9, .ref (zh y x9))]) hx hb dX3_putLine_198 hl (by decide) rfl (fun ls hl => ?_)
  obtain ⟨v2, ev, hf⟩ := m_bndPE hf
  refine lv_iinc (v := v2) (lv' := [(8, .int v2), (7, .int (zI o1.2 2 x9)), (0, .ref (zh y x0)), (1, .ref (zh y x1)), (3, .int x3), (4, .ref (zh y x4)), (5, .ref (zh y x5)), (6, .int x6), (9, .ref (zh y x9))]) hx hb dX3_putLine_200 hl (k := 7) rfl (by rw [ev]; rfl) (by decide) rfl (fun ls hl => ?_)
  clear ev
  refine lv_goto (tgt := 24) hx hb dX3_putLine_203 (by decide) ?_
  exact hself24 x0 x1 x3 x4 x5 x6 (zI o1.2 2 x9) v2 _ _ _ _ _ _ hf hCT hM (lv_sub hl [2, 3, 4, 5, 6, 7, 1, 0] rfl)
noncomputable def g_X3_putLine_99s (Pw : Int32 → ZS → Prop) (rec : Nat → Nat → Int32 → Int32 → Nat → ZS → Nat → Nat → (Int32 → ZS → Prop) → Prop) (self24 : Nat → Nat → Int32 → Nat → Nat → Int32 → Int32 → Int32 → ZS → Nat → Nat → Prop) (self99 : Nat → Nat → Int32 → Nat → Nat → Int32 → Int32 → Nat → Int32 → Int32 → ZS → Nat → Nat → Prop) (x0 : Nat) (x1 : Nat) (x3 : Int32) (x4 : Nat) (x5 : Nat) (x6 : Int32) (x8 : Int32) (x9 : Nat) (x10 : Int32) (x11 : Int32) (S : ZS) (C T : Nat) : Prop :=
  m_ifQ ((300 : Int32) ≤ x11) (
  g_X3_putLine_183 Pw rec self24 x0 x1 x3 x4 x5 x6 x8 x9 S (C) (T)
  ) (
  m_ifQ (x10 = (-1 : Int32)) (
  g_X3_putLine_183 Pw rec self24 x0 x1 x3 x4 x5 x6 x8 x9 S (C) (T)
  ) (
  m_ifQ ((6 : Int32) ≤ x3) (
  g_X3_putLine_183 Pw rec self24 x0 x1 x3 x4 x5 x6 x8 x9 S (C) (T)
  ) (
  m_chkQ (zK S x0 = 3) (
  m_calP (zP S 1 x0) (fun b1 =>
  m_bndP (x3 + (1 : Int32)) (fun v2 =>
  m_chkQ (zK S b1 = 15) (
  m_chkQ (¬ (v2 < 0 ∨ zN S b1 ≤ (v2).toNatClampNeg)) (
  m_calP (zB S b1 (v2).toNatClampNeg) (fun b3 =>
  m_chkQ (zK S b3 = 0) (
  m_calP (f_X0_copyFrom b3 x5 S) (fun o4 =>
  m_gal (C) (T) (fun mc ms Pw => g_X3_putGap x4 o4.2 mc ms Pw) (fun r6 S7 C8 T9 =>
  m_chkQ (zK S7 x4 = 6) (
  m_gal (C8) (T9) (fun mc ms Pw => g_X6_put x4 (40 : Int32) S7 mc ms Pw) (fun r11 S12 C13 T14 =>
  m_bndP (x3 + (1 : Int32)) (fun v15 =>
  m_chkQ (zK S12 x0 = 3) (
  m_gal (C13) (T14) (fun mc ms Pw => rec x0 x1 x10 v15 x4 S12 mc ms Pw) (fun r17 S18 C19 T20 =>
  m_chkQ (zK S18 x4 = 6) (
  m_gal (C19) (T20) (fun mc ms Pw => g_X6_put x4 (41 : Int32) S18 mc ms Pw) (fun r22 S23 C24 T25 =>
  m_chkQ (zK S23 x1 = 1) (
  m_calP (f_X1_at x1 x10 S23) (fun o26 =>
  m_chkQ (zK o26.2 o26.1 = 4) (
  m_bndP (x11 + (1 : Int32)) (fun v27 =>
  self99 x0 x1 x3 x4 x5 (1 : Int32) x8 x9 (zI o26.2 3 o26.1) v27 o26.2 (C24) (T25)))))))))))))))))))))
  )
  )
  )

set_option maxRecDepth 100000 in
set_option maxHeartbeats 4000000 in
theorem ws_X3_putLine_99 {p : Program} {l : Launch} {e : Env} {s : State} {m : MethodId} {args : Array Value} {below : List Frame} {meth : Method} {c : Code} {Q : State → Prop} {D : va_G} {y : Nat → ClassId} {A0 : Nat → Prop} {kc kt : Nat} {Pw : Int32 → ZS → Prop} {F Lo Fr Lr : Nat} (hR0 : 7 ≤ F ∧ 185 ≤ Lo) (hR2 : Fr + 1 ≤ F ∧ 8 + (12 + 11) + Lr ≤ Lo) {rec : Nat → Nat → Int32 → Int32 → Nat → ZS → Nat → Nat → (Int32 → ZS → Prop) → Prop} (hrec : ∀ (x0 : Nat) (x1 : Nat) (x2 : Int32) (x3 : Int32) (x4 : Nat) (S : ZS) (mc ms : Nat) (Pw9 : Int32 → ZS → Prop), rec x0 x1 x2 x3 x4 S mc ms Pw9 → zWv l yX3_putLine wsX3_putLine ({ frames := Fr, cells := mc, slots := ms, locals := Lr } : Room) [.ref (zh y x0), .ref (zh y x1), .int x2, .int x3, .ref (zh y x4)] D y S mc ms Pw9) (X : CallFix p m c cX3_putLine 12 s args wsX3_putLine RX3) (hret : zQv p l e ({ frames := F, cells := kc, slots := kt, locals := Lo } : Room) s m args below meth c Q cX3_putLine D y A0 Pw) {self24 : Nat → Nat → Int32 → Nat → Nat → Int32 → Int32 → Int32 → ZS → Nat → Nat → Prop} (hself24 : ∀ (x0 : Nat) (x1 : Nat) (x3 : Int32) (x4 : Nat) (x5 : Nat) (x6 : Int32) (x7 : Int32) (x8 : Int32) (S : ZS) (C T : Nat) (H : Heap) (locs : List Loc) (ls : Array Slot), self24 x0 x1 x3 x4 x5 x6 x7 x8 S C T → C ≤ kc ∧ T ≤ kt → zH D y A0 s H locs S → lv_has ls 12 [(0, .ref (zh y x0)), (1, .ref (zh y x1)), (3, .int x3), (4, .ref (zh y x4)), (5, .ref (zh y x5)), (6, .int x6), (7, .int x7), (8, .int x8)] → W p l e ({ frames := F, cells := kc, slots := kt, locals := Lo } : Room) s m args below meth c H locs (kc - C) (kt - T) Q (F0 m 24 ls [])) {self99 : Nat → Nat → Int32 → Nat → Nat → Int32 → Int32 → Nat → Int32 → Int32 → ZS → Nat → Nat → Prop} (hself99 : ∀ (x0 : Nat) (x1 : Nat) (x3 : Int32) (x4 : Nat) (x5 : Nat) (x6 : Int32) (x8 : Int32) (x9 : Nat) (x10 : Int32) (x11 : Int32) (S : ZS) (C T : Nat) (H : Heap) (locs : List Loc) (ls : Array Slot), self99 x0 x1 x3 x4 x5 x6 x8 x9 x10 x11 S C T → C ≤ kc ∧ T ≤ kt → zH D y A0 s H locs S → lv_has ls 12 [(0, .ref (zh y x0)), (1, .ref (zh y x1)), (3, .int x3), (4, .ref (zh y x4)), (5, .ref (zh y x5)), (6, .int x6), (8, .int x8), (9, .ref (zh y x9)), (10, .int x10), (11, .int x11)] → W p l e ({ frames := F, cells := kc, slots := kt, locals := Lo } : Room) s m args below meth c H locs (kc - C) (kt - T) Q (F0 m 99 ls [])) {x0 : Nat} {x1 : Nat} {x3 : Int32} {x4 : Nat} {x5 : Nat} {x6 : Int32} {x8 : Int32} {x9 : Nat} {x10 : Int32} {x11 : Int32} {S : ZS} {C T : Nat} {H : Heap} {locs : List Loc} {ls : Array Slot} (hf : g_X3_putLine_99s Pw rec self24 self99 x0 x1 x3 x4 x5 x6 x8 x9 x10 x11 S C T) (hCT : C ≤ kc ∧ T ≤ kt) (hM : zH D y A0 s H locs S) (hl : lv_has ls 12 [(0, .ref (zh y x0)), (1, .ref (zh y x1)), (3, .int x3), (4, .ref (zh y x4)), (5, .ref (zh y x5)), (6, .int x6), (8, .int x8), (9, .ref (zh y x9)), (10, .int x10), (11, .int x11)]) : W p l e ({ frames := F, cells := kc, slots := kt, locals := Lo } : Room) s m args below meth c H locs (kc - C) (kt - T) Q (F0 m 99 ls []) := by
  obtain ⟨hx, hb, hml, hown, hts⟩ := id X
  unfold g_X3_putLine_99s at hf
  refine lv_iload hx hb dX3_putLine_99 (lv_at hl 9 rfl) ?_
  refine lv_sipush (v := (300 : Int32)) hx hb dX3_putLine_101 (by decide) ?_
  refine lv_icmp_ge (tgt := 183) hx hb dX3_putLine_104 (by decide) (fun cc1 => ?_) (fun cc1 => ?_)
  · replace hf := m_ifPT hf cc1
    exact w_X3_putLine_183 (x0 := x0) (x1 := x1) (x3 := x3) (x4 := x4) (x5 := x5) (x6 := x6) (x8 := x8) (x9 := x9) hR0 hR2 hrec X hret hself24 hf hCT hM (lv_sub hl [0, 1, 2, 3, 4, 5, 6, 7] rfl)
  · replace hf := m_ifPF hf cc1
    refine lv_iload hx hb dX3_putLine_107 (lv_at hl 8 rfl) ?_
    refine lv_iconst (v := (-1 : Int32)) hx hb dX3_putLine_109 (by decide) ?_
    refine lv_icmp_eq (tgt := 183) hx hb dX3_putLine_110 (by decide) (fun cc1 => ?_) (fun cc1 => ?_)
    · replace hf := m_ifPT hf cc1
      exact w_X3_putLine_183 (x0 := x0) (x1 := x1) (x3 := x3) (x4 := x4) (x5 := x5) (x6 := x6) (x8 := x8) (x9 := x9) hR0 hR2 hrec X hret hself24 hf hCT hM (lv_sub hl [0, 1, 2, 3, 4, 5, 6, 7] rfl)
    · replace hf := m_ifPF hf cc1
      refine lv_iload_n hx hb dX3_putLine_113 rfl (lv_at hl 2 rfl) ?_
      refine lv_bipush (v := (6 : Int32)) hx hb dX3_putLine_114 (by decide) ?_
      refine lv_icmp_ge (tgt := 183) hx hb dX3_putLine_116 (by decide) (fun cc1 => ?_) (fun cc1 => ?_)
      · replace hf := m_ifPT hf cc1
        exact w_X3_putLine_183 (x0 := x0) (x1 := x1) (x3 := x3) (x4 := x4) (x5 := x5) (x6 := x6) (x8 := x8) (x9 := x9) hR0 hR2 hrec X hret hself24 hf hCT hM (lv_sub hl [0, 1, 2, 3, 4, 5, 6, 7] rfl)
      · replace hf := m_ifPF hf cc1
        refine lv_aload_n hx hb dX3_putLine_119 rfl (lv_at hl 0 rfl) ?_
        obtain ⟨ca, hf⟩ := m_chkPE hf
        replace ca := z_in hM (by decide) ca
        refine z_get (k := 3) (j := 1) (C := RX3) (T := TX3) (N := 2) (fl := zf_3) (v := va_rf ((zP S 1 x0).map (zh y))) X hw_X3_putLine_3 hM rfl zc_3 ca (by decide) fl_X3_putLine_3_1 rfl dX3_putLine_120 ?_
        clear ca
        obtain ⟨b1, hb9, hf⟩ := m_calPE hf
        refine z_topr hb9 ?_
        clear hb9
        refine lv_iload_n hx hb dX3_putLine_123 rfl (lv_at hl 2 rfl) ?_
        refine lv_iconst (v := (1 : Int32)) hx hb dX3_putLine_124 (by decide) ?_
        refine lv_iadd hx hb dX3_putLine_125 ?_
        obtain ⟨v2, ev, hf⟩ := m_bndPE hf
        refine m_top ev ?_
        clear ev
        obtain ⟨ca, hf⟩ := m_chkPE hf
        replace ca := z_in hM (by decide) ca
        obtain ⟨cd, hf⟩ := m_chkPE hf
        refine z_aald (k := 15) (t0 := 2) (C := "MoveTexts$Board") X hM (fun _ _ _ _ _ => rfl) rfl ca cd dX3_putLine_126 ?_
        clear ca cd
        obtain ⟨b3, hb9, hf⟩ := m_calPE hf
        refine z_topr hb9 ?_
        clear hb9
        refine lv_aload hx hb dX3_putLine_127 (lv_at hl 4 rfl) ?_
        obtain ⟨ca, hf⟩ := m_chkPE hf
        replace ca := z_in hM (by decide) ca
        obtain ⟨o4, ho, hf⟩ := m_calPE hf
        refine z_gcallVv (k := 0) (C := RX0) (T := TX0) (N := 7) (fl := zf_0) X hM rfl zc_0 ca (c_X0_copyFrom ho) gX3_putLine_X0_copyFrom rfl ⟨rfl, rfl⟩ hd_X0_copyFrom ⟨Nat.le_trans (Nat.le_of_ble_eq_true rfl) hR0.1, Nat.le_trans (Nat.le_of_ble_eq_true rfl) hR0.2⟩ rfl hl.1 rfl ⟨Nat.sub_le _ _, Nat.sub_le _ _⟩ (Nat.le_of_ble_eq_true rfl) dX3_putLine_129 (fun H locs hM => ?_)
        clear ho
        refine lv_aload hx hb dX3_putLine_132 (lv_at hl 3 rfl) ?_
        obtain ⟨mc, ms, hcm, ho⟩ := m_galE hf
        refine z_wcallSv X hM (c_X3_putGap ho) gX3_putLine_X3_putGap rfl ⟨rfl, rfl⟩ ⟨by show kc - (C) + mc ≤ kc; omega, by show kt - (T) + ms ≤ kt; omega⟩ hd_X3_putGap ⟨Nat.le_trans (Nat.le_of_ble_eq_true rfl) hR0.1, Nat.le_trans (Nat.le_of_ble_eq_true rfl) hR0.2⟩ rfl hl.1 rfl (Nat.le_of_ble_eq_true rfl) dX3_putLine_134 (fun S7 H locs hf hM => ?_)
        refine z_eqCS (c2 := kc - (C - mc)) (t2 := kt - (T - ms)) (by omega) (by omega) ?_
        replace hCT : C - mc ≤ kc ∧ T - ms ≤ kt := by omega
        generalize C - mc = C8 at hf hCT ⊢
        generalize T - ms = T9 at hf hCT ⊢
        clear ho hcm
        refine lv_aload hx hb dX3_putLine_137 (lv_at hl 3 rfl) ?_
        refine lv_bipush (v := (40 : Int32)) hx hb dX3_putLine_139 (by decide) ?_
        obtain ⟨ca, hf⟩ := m_chkPE hf
        replace ca := z_in hM (by decide) ca
        obtain ⟨mc, ms, hcm, ho⟩ := m_galE hf
        refine z_wcallVv (k := 6) (C := RX6) (T := TX6) (N := 2) (fl := zf_6) X hM rfl zc_6 ca (c_X6_put ho) gX3_putLine_X6_put rfl ⟨rfl, rfl⟩ ⟨by show kc - (C8) + mc ≤ kc; omega, by show kt - (T9) + ms ≤ kt; omega⟩ hd_X6_put ⟨Nat.le_trans (Nat.le_of_ble_eq_true rfl) hR0.1, Nat.le_trans (Nat.le_of_ble_eq_true rfl) hR0.2⟩ rfl hl.1 rfl (Nat.le_of_ble_eq_true rfl) dX3_putLine_141 (fun S12 H locs hf hM => ?_)
        refine z_eqCS (c2 := kc - (C8 - mc)) (t2 := kt - (T9 - ms)) (by omega) (by omega) ?_
        replace hCT : C8 - mc ≤ kc ∧ T9 - ms ≤ kt := by omega
        generalize C8 - mc = C13 at hf hCT ⊢
        generalize T9 - ms = T14 at hf hCT ⊢
        clear ho hcm
        refine lv_aload_n hx hb dX3_putLine_144 rfl (lv_at hl 0 rfl) ?_
        refine lv_aload_n hx hb dX3_putLine_145 rfl (lv_at hl 1 rfl) ?_
        refine lv_iload hx hb dX3_putLine_146 (lv_at hl 8 rfl) ?_
        refine lv_iload_n hx hb dX3_putLine_148 rfl (lv_at hl 2 rfl) ?_
        refine lv_iconst (v := (1 : Int32)) hx hb dX3_putLine_149 (by decide) ?_
        refine lv_iadd hx hb dX3_putLine_150 ?_
        obtain ⟨v15, ev, hf⟩ := m_bndPE hf
        refine m_top ev ?_
        clear ev
        refine lv_aload hx hb dX3_putLine_151 (lv_at hl 3 rfl) ?_
        obtain ⟨ca, hf⟩ := m_chkPE hf
        replace ca := z_in hM (by decide) ca
        obtain ⟨mc, ms, hcm, ho⟩ := m_galE hf
        refine z_wcallVv (k := 3) (C := RX3) (T := TX3) (N := 2) (fl := zf_3) X hM rfl zc_3 ca (hrec _ _ _ _ _ _ _ _ _ ho) gX3_putLine_X3_putLine rfl ⟨rfl, rfl⟩ ⟨by show kc - (C13) + mc ≤ kc; omega, by show kt - (T14) + ms ≤ kt; omega⟩ hd_X3_putLine hR2 rfl hl.1 rfl (Nat.le_of_ble_eq_true rfl) dX3_putLine_153 (fun S18 H locs hf hM => ?_)
        refine z_eqCS (c2 := kc - (C13 - mc)) (t2 := kt - (T14 - ms)) (by omega) (by omega) ?_
        replace hCT : C13 - mc ≤ kc ∧ T14 - ms ≤ kt := by omega
        generalize C13 - mc = C19 at hf hCT ⊢
        generalize T14 - ms = T20 at hf hCT ⊢
        clear ho hcm
        refine lv_aload hx hb dX3_putLine_156 (lv_at hl 3 rfl) ?_
        refine lv_bipush (v := (41 : Int32)) hx hb dX3_putLine_158 (by decide) ?_
        obtain ⟨ca, hf⟩ := m_chkPE hf
        replace ca := z_in hM (by decide) ca
        obtain ⟨mc, ms, hcm, ho⟩ := m_galE hf
        refine z_wcallVv (k := 6) (C := RX6) (T := TX6) (N := 2) (fl := zf_6) X hM rfl zc_6 ca (c_X6_put ho) gX3_putLine_X6_put rfl ⟨rfl, rfl⟩ ⟨by show kc - (C19) + mc ≤ kc; omega, by show kt - (T20) + ms ≤ kt; omega⟩ hd_X6_put ⟨Nat.le_trans (Nat.le_of_ble_eq_true rfl) hR0.1, Nat.le_trans (Nat.le_of_ble_eq_true rfl) hR0.2⟩ rfl hl.1 rfl (Nat.le_of_ble_eq_true rfl) dX3_putLine_160 (fun S23 H locs hf hM => ?_)
        refine z_eqCS (c2 := kc - (C19 - mc)) (t2 := kt - (T20 - ms)) (by omega) (by omega) ?_
        replace hCT : C19 - mc ≤ kc ∧ T20 - ms ≤ kt := by omega
        generalize C19 - mc = C24 at hf hCT ⊢
        generalize T20 - ms = T25 at hf hCT ⊢
        clear ho hcm
        refine lv_iconst (v := (1 : Int32)) hx hb dX3_putLine_163 (by decide) ?_
        refine lv_istore (lv' := [(6, .int (1 : Int32)), (0, .ref (zh y x0)), (1, .ref (zh y x1)), (3, .int x3), (4, .ref (zh y x4)), (5, .ref (zh y x5)), (8, .int x8), (9, .ref (zh y x9)), (10, .int x10), (11, .int x11)]) hx hb dX3_putLine_164 hl (by decide) rfl (fun ls hl => ?_)
        refine lv_aload_n hx hb dX3_putLine_166 rfl (lv_at hl 2 rfl) ?_
        refine lv_iload hx hb dX3_putLine_167 (lv_at hl 8 rfl) ?_
        obtain ⟨ca, hf⟩ := m_chkPE hf
        replace ca := z_in hM (by decide) ca
        obtain ⟨o26, ho, hf⟩ := m_calPE hf
        refine z_gcallVr (k := 1) (C := RX1) (T := TX1) (N := 8) (fl := zf_1) X hM rfl zc_1 ca (c_X1_at ho) gX3_putLine_X1_at rfl ⟨rfl, rfl⟩ hd_X1_at ⟨Nat.le_trans (Nat.le_of_ble_eq_true rfl) hR0.1, Nat.le_trans (Nat.le_of_ble_eq_true rfl) hR0.2⟩ rfl hl.1 rfl ⟨Nat.sub_le _ _, Nat.sub_le _ _⟩ (Nat.le_of_ble_eq_true rfl) dX3_putLine_169 (fun H locs hM => ?_)
        clear ho
        obtain ⟨ca, hf⟩ := m_chkPE hf
        replace ca := z_in hM (by decide) ca
        refine z_get (k := 4) (j := 3) (C := RX4) (T := TX4) (N := 7) (fl := zf_4) (v := .int (zI o26.2 3 o26.1)) X hw_X3_putLine_4 hM rfl zc_4 ca (by decide) fl_X3_putLine_4_3 rfl dX3_putLine_172 ?_
        clear ca
        refine lv_istore (lv' := [(10, .int (zI o26.2 3 o26.1)), (6, .int (1 : Int32)), (0, .ref (zh y x0)), (1, .ref (zh y x1)), (3, .int x3), (4, .ref (zh y x4)), (5, .ref (zh y x5)), (8, .int x8), (9, .ref (zh y x9)), (11, .int x11)]) hx hb dX3_putLine_175 hl (by decide) rfl (fun ls hl => ?_)
        obtain ⟨v27, ev, hf⟩ := m_bndPE hf
        refine lv_iinc (v := v27) (lv' := [(11, .int v27), (10, .int (zI o26.2 3 o26.1)), (6, .int (1 : Int32)), (0, .ref (zh y x0)), (1, .ref (zh y x1)), (3, .int x3), (4, .ref (zh y x4)), (5, .ref (zh y x5)), (8, .int x8), (9, .ref (zh y x9))]) hx hb dX3_putLine_177 hl (k := 9) rfl (by rw [ev]; rfl) (by decide) rfl (fun ls hl => ?_)
        clear ev
        refine lv_goto (tgt := 99) hx hb dX3_putLine_180 (by decide) ?_
        exact hself99 x0 x1 x3 x4 x5 (1 : Int32) x8 x9 (zI o26.2 3 o26.1) v27 _ _ _ _ _ _ hf hCT hM (lv_sub hl [3, 4, 5, 6, 7, 2, 8, 9, 1, 0] rfl)
noncomputable def g_X3_putLine_99 (Pw : Int32 → ZS → Prop) (rec : Nat → Nat → Int32 → Int32 → Nat → ZS → Nat → Nat → (Int32 → ZS → Prop) → Prop) (self24 : Nat → Nat → Int32 → Nat → Nat → Int32 → Int32 → Int32 → ZS → Nat → Nat → Prop) : Nat → Nat → Nat → Int32 → Nat → Nat → Int32 → Int32 → Nat → Int32 → Int32 → ZS → Nat → Nat → Prop
  | 0 => fun _ _ _ _ _ _ _ _ _ _ _ _ _ => False
  | n + 1 => g_X3_putLine_99s Pw rec self24 (g_X3_putLine_99 Pw rec self24 n)
theorem w_X3_putLine_99 {p : Program} {l : Launch} {e : Env} {s : State} {m : MethodId} {args : Array Value} {below : List Frame} {meth : Method} {c : Code} {Q : State → Prop} {D : va_G} {y : Nat → ClassId} {A0 : Nat → Prop} {kc kt : Nat} {Pw : Int32 → ZS → Prop} {F Lo Fr Lr : Nat} (hR0 : 7 ≤ F ∧ 185 ≤ Lo) (hR2 : Fr + 1 ≤ F ∧ 8 + (12 + 11) + Lr ≤ Lo) {rec : Nat → Nat → Int32 → Int32 → Nat → ZS → Nat → Nat → (Int32 → ZS → Prop) → Prop} (hrec : ∀ (x0 : Nat) (x1 : Nat) (x2 : Int32) (x3 : Int32) (x4 : Nat) (S : ZS) (mc ms : Nat) (Pw9 : Int32 → ZS → Prop), rec x0 x1 x2 x3 x4 S mc ms Pw9 → zWv l yX3_putLine wsX3_putLine ({ frames := Fr, cells := mc, slots := ms, locals := Lr } : Room) [.ref (zh y x0), .ref (zh y x1), .int x2, .int x3, .ref (zh y x4)] D y S mc ms Pw9) (X : CallFix p m c cX3_putLine 12 s args wsX3_putLine RX3) (hret : zQv p l e ({ frames := F, cells := kc, slots := kt, locals := Lo } : Room) s m args below meth c Q cX3_putLine D y A0 Pw) {self24 : Nat → Nat → Int32 → Nat → Nat → Int32 → Int32 → Int32 → ZS → Nat → Nat → Prop} (hself24 : ∀ (x0 : Nat) (x1 : Nat) (x3 : Int32) (x4 : Nat) (x5 : Nat) (x6 : Int32) (x7 : Int32) (x8 : Int32) (S : ZS) (C T : Nat) (H : Heap) (locs : List Loc) (ls : Array Slot), self24 x0 x1 x3 x4 x5 x6 x7 x8 S C T → C ≤ kc ∧ T ≤ kt → zH D y A0 s H locs S → lv_has ls 12 [(0, .ref (zh y x0)), (1, .ref (zh y x1)), (3, .int x3), (4, .ref (zh y x4)), (5, .ref (zh y x5)), (6, .int x6), (7, .int x7), (8, .int x8)] → W p l e ({ frames := F, cells := kc, slots := kt, locals := Lo } : Room) s m args below meth c H locs (kc - C) (kt - T) Q (F0 m 24 ls [])) (n : Nat) : ∀ (x0 : Nat) (x1 : Nat) (x3 : Int32) (x4 : Nat) (x5 : Nat) (x6 : Int32) (x8 : Int32) (x9 : Nat) (x10 : Int32) (x11 : Int32) (S : ZS) (C T : Nat) (H : Heap) (locs : List Loc) (ls : Array Slot), g_X3_putLine_99 Pw rec self24 n x0 x1 x3 x4 x5 x6 x8 x9 x10 x11 S C T → C ≤ kc ∧ T ≤ kt → zH D y A0 s H locs S → lv_has ls 12 [(0, .ref (zh y x0)), (1, .ref (zh y x1)), (3, .int x3), (4, .ref (zh y x4)), (5, .ref (zh y x5)), (6, .int x6), (8, .int x8), (9, .ref (zh y x9)), (10, .int x10), (11, .int x11)] → W p l e ({ frames := F, cells := kc, slots := kt, locals := Lo } : Room) s m args below meth c H locs (kc - C) (kt - T) Q (F0 m 99 ls []) := by
  induction n with
  | zero => intro x0 x1 x3 x4 x5 x6 x8 x9 x10 x11 S C T H locs ls hf; exact absurd hf id
  | succ n ih => intro x0 x1 x3 x4 x5 x6 x8 x9 x10 x11 S C T H locs ls hf hCT hM hl; exact ws_X3_putLine_99 hR0 hR2 hrec X hret hself24 (self99 := g_X3_putLine_99 Pw rec self24 n) ih hf hCT hM hl
noncomputable def g_X3_putLine_94 (Pw : Int32 → ZS → Prop) (rec : Nat → Nat → Int32 → Int32 → Nat → ZS → Nat → Nat → (Int32 → ZS → Prop) → Prop) (self24 : Nat → Nat → Int32 → Nat → Nat → Int32 → Int32 → Int32 → ZS → Nat → Nat → Prop) (x0 : Nat) (x1 : Nat) (x3 : Int32) (x4 : Nat) (x5 : Nat) (x6 : Int32) (x8 : Int32) (x9 : Nat) (t0 : Int32) (S : ZS) (C T : Nat) : Prop :=
  g_X3_putLine_99 Pw rec self24 mFuel x0 x1 x3 x4 x5 x6 x8 x9 t0 (0 : Int32) S (C) (T)

set_option maxRecDepth 100000 in
set_option maxHeartbeats 4000000 in
theorem w_X3_putLine_94 {p : Program} {l : Launch} {e : Env} {s : State} {m : MethodId} {args : Array Value} {below : List Frame} {meth : Method} {c : Code} {Q : State → Prop} {D : va_G} {y : Nat → ClassId} {A0 : Nat → Prop} {kc kt : Nat} {Pw : Int32 → ZS → Prop} {F Lo Fr Lr : Nat} (hR0 : 7 ≤ F ∧ 185 ≤ Lo) (hR2 : Fr + 1 ≤ F ∧ 8 + (12 + 11) + Lr ≤ Lo) {rec : Nat → Nat → Int32 → Int32 → Nat → ZS → Nat → Nat → (Int32 → ZS → Prop) → Prop} (hrec : ∀ (x0 : Nat) (x1 : Nat) (x2 : Int32) (x3 : Int32) (x4 : Nat) (S : ZS) (mc ms : Nat) (Pw9 : Int32 → ZS → Prop), rec x0 x1 x2 x3 x4 S mc ms Pw9 → zWv l yX3_putLine wsX3_putLine ({ frames := Fr, cells := mc, slots := ms, locals := Lr } : Room) [.ref (zh y x0), .ref (zh y x1), .int x2, .int x3, .ref (zh y x4)] D y S mc ms Pw9) (X : CallFix p m c cX3_putLine 12 s args wsX3_putLine RX3) (hret : zQv p l e ({ frames := F, cells := kc, slots := kt, locals := Lo } : Room) s m args below meth c Q cX3_putLine D y A0 Pw) {self24 : Nat → Nat → Int32 → Nat → Nat → Int32 → Int32 → Int32 → ZS → Nat → Nat → Prop} (hself24 : ∀ (x0 : Nat) (x1 : Nat) (x3 : Int32) (x4 : Nat) (x5 : Nat) (x6 : Int32) (x7 : Int32) (x8 : Int32) (S : ZS) (C T : Nat) (H : Heap) (locs : List Loc) (ls : Array Slot), self24 x0 x1 x3 x4 x5 x6 x7 x8 S C T → C ≤ kc ∧ T ≤ kt → zH D y A0 s H locs S → lv_has ls 12 [(0, .ref (zh y x0)), (1, .ref (zh y x1)), (3, .int x3), (4, .ref (zh y x4)), (5, .ref (zh y x5)), (6, .int x6), (7, .int x7), (8, .int x8)] → W p l e ({ frames := F, cells := kc, slots := kt, locals := Lo } : Room) s m args below meth c H locs (kc - C) (kt - T) Q (F0 m 24 ls [])) {x0 : Nat} {x1 : Nat} {x3 : Int32} {x4 : Nat} {x5 : Nat} {x6 : Int32} {x8 : Int32} {x9 : Nat} {t0 : Int32} {S : ZS} {C T : Nat} {H : Heap} {locs : List Loc} {ls : Array Slot} (hf : g_X3_putLine_94 Pw rec self24 x0 x1 x3 x4 x5 x6 x8 x9 t0 S C T) (hCT : C ≤ kc ∧ T ≤ kt) (hM : zH D y A0 s H locs S) (hl : lv_has ls 12 [(0, .ref (zh y x0)), (1, .ref (zh y x1)), (3, .int x3), (4, .ref (zh y x4)), (5, .ref (zh y x5)), (6, .int x6), (8, .int x8), (9, .ref (zh y x9))]) : W p l e ({ frames := F, cells := kc, slots := kt, locals := Lo } : Room) s m args below meth c H locs (kc - C) (kt - T) Q (F0 m 94 ls [.int t0]) := by
  obtain ⟨hx, hb, hml, hown, hts⟩ := id X
  unfold g_X3_putLine_94 at hf
  refine lv_istore (lv' := [(10, .int t0), (0, .ref (zh y x0)), (1, .ref (zh y x1)), (3, .int x3), (4, .ref (zh y x4)), (5, .ref (zh y x5)), (6, .int x6), (8, .int x8), (9, .ref (zh y x9))]) hx hb dX3_putLine_94 hl (by decide) rfl (fun ls hl => ?_)
  refine lv_iconst (v := (0 : Int32)) hx hb dX3_putLine_96 (by decide) ?_
  refine lv_istore (lv' := [(11, .int (0 : Int32)), (10, .int t0), (0, .ref (zh y x0)), (1, .ref (zh y x1)), (3, .int x3), (4, .ref (zh y x4)), (5, .ref (zh y x5)), (6, .int x6), (8, .int x8), (9, .ref (zh y x9))]) hx hb dX3_putLine_97 hl (by decide) rfl (fun ls hl => ?_)
  exact w_X3_putLine_99 hR0 hR2 hrec X hret hself24 _ x0 x1 x3 x4 x5 x6 x8 x9 t0 (0 : Int32) _ _ _ _ _ _ hf hCT hM (lv_sub hl [2, 3, 4, 5, 6, 7, 8, 9, 1, 0] rfl)
noncomputable def g_X3_putLine_74 (Pw : Int32 → ZS → Prop) (rec : Nat → Nat → Int32 → Int32 → Nat → ZS → Nat → Nat → (Int32 → ZS → Prop) → Prop) (self24 : Nat → Nat → Int32 → Nat → Nat → Int32 → Int32 → Int32 → ZS → Nat → Nat → Prop) (x0 : Nat) (x1 : Nat) (x3 : Int32) (x4 : Nat) (x5 : Nat) (x7 : Int32) (x8 : Int32) (x9 : Nat) (t0 : Int32) (S : ZS) (C T : Nat) : Prop :=
  m_chkQ (zK S x1 = 1) (
  m_calP (f_X1_goesOn x1 x7 S) (fun o1 =>
  m_ifQ (o1.1 = 0) (
  g_X3_putLine_94 Pw rec self24 x0 x1 x3 x4 x5 t0 x8 x9 (-1 : Int32) o1.2 (C) (T)
  ) (
  m_chkQ (zK o1.2 x9 = 4) (
  g_X3_putLine_94 Pw rec self24 x0 x1 x3 x4 x5 t0 x8 x9 (zI o1.2 3 x9) o1.2 (C) (T))
  )))

set_option maxRecDepth 100000 in
set_option maxHeartbeats 4000000 in
theorem w_X3_putLine_74 {p : Program} {l : Launch} {e : Env} {s : State} {m : MethodId} {args : Array Value} {below : List Frame} {meth : Method} {c : Code} {Q : State → Prop} {D : va_G} {y : Nat → ClassId} {A0 : Nat → Prop} {kc kt : Nat} {Pw : Int32 → ZS → Prop} {F Lo Fr Lr : Nat} (hR0 : 7 ≤ F ∧ 185 ≤ Lo) (hR2 : Fr + 1 ≤ F ∧ 8 + (12 + 11) + Lr ≤ Lo) {rec : Nat → Nat → Int32 → Int32 → Nat → ZS → Nat → Nat → (Int32 → ZS → Prop) → Prop} (hrec : ∀ (x0 : Nat) (x1 : Nat) (x2 : Int32) (x3 : Int32) (x4 : Nat) (S : ZS) (mc ms : Nat) (Pw9 : Int32 → ZS → Prop), rec x0 x1 x2 x3 x4 S mc ms Pw9 → zWv l yX3_putLine wsX3_putLine ({ frames := Fr, cells := mc, slots := ms, locals := Lr } : Room) [.ref (zh y x0), .ref (zh y x1), .int x2, .int x3, .ref (zh y x4)] D y S mc ms Pw9) (X : CallFix p m c cX3_putLine 12 s args wsX3_putLine RX3) (hret : zQv p l e ({ frames := F, cells := kc, slots := kt, locals := Lo } : Room) s m args below meth c Q cX3_putLine D y A0 Pw) {self24 : Nat → Nat → Int32 → Nat → Nat → Int32 → Int32 → Int32 → ZS → Nat → Nat → Prop} (hself24 : ∀ (x0 : Nat) (x1 : Nat) (x3 : Int32) (x4 : Nat) (x5 : Nat) (x6 : Int32) (x7 : Int32) (x8 : Int32) (S : ZS) (C T : Nat) (H : Heap) (locs : List Loc) (ls : Array Slot), self24 x0 x1 x3 x4 x5 x6 x7 x8 S C T → C ≤ kc ∧ T ≤ kt → zH D y A0 s H locs S → lv_has ls 12 [(0, .ref (zh y x0)), (1, .ref (zh y x1)), (3, .int x3), (4, .ref (zh y x4)), (5, .ref (zh y x5)), (6, .int x6), (7, .int x7), (8, .int x8)] → W p l e ({ frames := F, cells := kc, slots := kt, locals := Lo } : Room) s m args below meth c H locs (kc - C) (kt - T) Q (F0 m 24 ls [])) {x0 : Nat} {x1 : Nat} {x3 : Int32} {x4 : Nat} {x5 : Nat} {x7 : Int32} {x8 : Int32} {x9 : Nat} {t0 : Int32} {S : ZS} {C T : Nat} {H : Heap} {locs : List Loc} {ls : Array Slot} (hf : g_X3_putLine_74 Pw rec self24 x0 x1 x3 x4 x5 x7 x8 x9 t0 S C T) (hCT : C ≤ kc ∧ T ≤ kt) (hM : zH D y A0 s H locs S) (hl : lv_has ls 12 [(0, .ref (zh y x0)), (1, .ref (zh y x1)), (3, .int x3), (4, .ref (zh y x4)), (5, .ref (zh y x5)), (7, .int x7), (8, .int x8), (9, .ref (zh y x9))]) : W p l e ({ frames := F, cells := kc, slots := kt, locals := Lo } : Room) s m args below meth c H locs (kc - C) (kt - T) Q (F0 m 74 ls [.int t0]) := by
  obtain ⟨hx, hb, hml, hown, hts⟩ := id X
  unfold g_X3_putLine_74 at hf
  refine lv_istore (lv' := [(6, .int t0), (0, .ref (zh y x0)), (1, .ref (zh y x1)), (3, .int x3), (4, .ref (zh y x4)), (5, .ref (zh y x5)), (7, .int x7), (8, .int x8), (9, .ref (zh y x9))]) hx hb dX3_putLine_74 hl (by decide) rfl (fun ls hl => ?_)
  refine lv_aload_n hx hb dX3_putLine_76 rfl (lv_at hl 2 rfl) ?_
  refine lv_iload hx hb dX3_putLine_77 (lv_at hl 6 rfl) ?_
  obtain ⟨ca, hf⟩ := m_chkPE hf
  replace ca := z_in hM (by decide) ca
  obtain ⟨o1, ho, hf⟩ := m_calPE hf
  refine z_gcallVi (k := 1) (C := RX1) (T := TX1) (N := 8) (fl := zf_1) X hM rfl zc_1 ca (c_X1_goesOn ho) gX3_putLine_X1_goesOn rfl ⟨rfl, rfl⟩ hd_X1_goesOn ⟨Nat.le_trans (Nat.le_of_ble_eq_true rfl) hR0.1, Nat.le_trans (Nat.le_of_ble_eq_true rfl) hR0.2⟩ rfl hl.1 rfl ⟨Nat.sub_le _ _, Nat.sub_le _ _⟩ (Nat.le_of_ble_eq_true rfl) dX3_putLine_79 (fun H locs hM => ?_)
  clear ho
  refine lv_if_eq (tgt := 93) hx hb dX3_putLine_82 (by decide) (fun cc1 => ?_) (fun cc1 => ?_)
  · replace hf := m_ifPT hf cc1
    refine lv_iconst (v := (-1 : Int32)) hx hb dX3_putLine_93 (by decide) ?_
    exact w_X3_putLine_94 (x0 := x0) (x1 := x1) (x3 := x3) (x4 := x4) (x5 := x5) (x6 := t0) (x8 := x8) (x9 := x9) (t0 := (-1 : Int32)) hR0 hR2 hrec X hret hself24 hf hCT hM (lv_sub hl [1, 2, 3, 4, 5, 0, 7, 8] rfl)
  · replace hf := m_ifPF hf cc1
    refine lv_aload hx hb dX3_putLine_85 (lv_at hl 8 rfl) ?_
    obtain ⟨ca, hf⟩ := m_chkPE hf
    replace ca := z_in hM (by decide) ca
    refine z_get (k := 4) (j := 3) (C := RX4) (T := TX4) (N := 7) (fl := zf_4) (v := .int (zI o1.2 3 x9)) X hw_X3_putLine_4 hM rfl zc_4 ca (by decide) fl_X3_putLine_4_3 rfl dX3_putLine_87 ?_
    clear ca
    refine lv_goto (tgt := 94) hx hb dX3_putLine_90 (by decide) ?_
    exact w_X3_putLine_94 (x0 := x0) (x1 := x1) (x3 := x3) (x4 := x4) (x5 := x5) (x6 := t0) (x8 := x8) (x9 := x9) (t0 := (zI o1.2 3 x9)) hR0 hR2 hrec X hret hself24 hf hCT hM (lv_sub hl [1, 2, 3, 4, 5, 0, 7, 8] rfl)
noncomputable def g_X3_putLine_24s (Pw : Int32 → ZS → Prop) (rec : Nat → Nat → Int32 → Int32 → Nat → ZS → Nat → Nat → (Int32 → ZS → Prop) → Prop) (self24 : Nat → Nat → Int32 → Nat → Nat → Int32 → Int32 → Int32 → ZS → Nat → Nat → Prop) (x0 : Nat) (x1 : Nat) (x3 : Int32) (x4 : Nat) (x5 : Nat) (x6 : Int32) (x7 : Int32) (x8 : Int32) (S : ZS) (C T : Nat) : Prop :=
  m_ifQ ((300 : Int32) ≤ x8) (
  g_X3_putLine_206 Pw rec  S (C) (T)
  ) (
  m_ifQ (x7 = (-1 : Int32)) (
  g_X3_putLine_206 Pw rec  S (C) (T)
  ) (
  m_chkQ (zK S x1 = 1) (
  m_calP (f_X1_at x1 x7 S) (fun o1 =>
  m_chkQ (zK o1.2 x0 = 3) (
  m_gal (C) (T) (fun mc ms Pw => g_X3_putMove x0 x5 o1.1 x6 x4 o1.2 mc ms Pw) (fun r3 S4 C5 T6 =>
  m_chkQ (zK S4 o1.1 = 4) (
  m_calP (zP S4 6 o1.1) (fun b7 =>
  m_chkQ (zK S4 b7 = 6) (
  m_calP (f_X6_size b7 S4) (fun o8 =>
  m_ifQ (o8.1 ≤ 0) (
  g_X3_putLine_74 Pw rec self24 x0 x1 x3 x4 x5 x7 x8 o1.1 (0 : Int32) o8.2 (C5) (T6)
  ) (
  g_X3_putLine_74 Pw rec self24 x0 x1 x3 x4 x5 x7 x8 o1.1 (1 : Int32) o8.2 (C5) (T6)
  )))))))))
  )
  )

set_option maxRecDepth 100000 in
set_option maxHeartbeats 4000000 in
theorem ws_X3_putLine_24 {p : Program} {l : Launch} {e : Env} {s : State} {m : MethodId} {args : Array Value} {below : List Frame} {meth : Method} {c : Code} {Q : State → Prop} {D : va_G} {y : Nat → ClassId} {A0 : Nat → Prop} {kc kt : Nat} {Pw : Int32 → ZS → Prop} {F Lo Fr Lr : Nat} (hR0 : 7 ≤ F ∧ 185 ≤ Lo) (hR2 : Fr + 1 ≤ F ∧ 8 + (12 + 11) + Lr ≤ Lo) {rec : Nat → Nat → Int32 → Int32 → Nat → ZS → Nat → Nat → (Int32 → ZS → Prop) → Prop} (hrec : ∀ (x0 : Nat) (x1 : Nat) (x2 : Int32) (x3 : Int32) (x4 : Nat) (S : ZS) (mc ms : Nat) (Pw9 : Int32 → ZS → Prop), rec x0 x1 x2 x3 x4 S mc ms Pw9 → zWv l yX3_putLine wsX3_putLine ({ frames := Fr, cells := mc, slots := ms, locals := Lr } : Room) [.ref (zh y x0), .ref (zh y x1), .int x2, .int x3, .ref (zh y x4)] D y S mc ms Pw9) (X : CallFix p m c cX3_putLine 12 s args wsX3_putLine RX3) (hret : zQv p l e ({ frames := F, cells := kc, slots := kt, locals := Lo } : Room) s m args below meth c Q cX3_putLine D y A0 Pw) {self24 : Nat → Nat → Int32 → Nat → Nat → Int32 → Int32 → Int32 → ZS → Nat → Nat → Prop} (hself24 : ∀ (x0 : Nat) (x1 : Nat) (x3 : Int32) (x4 : Nat) (x5 : Nat) (x6 : Int32) (x7 : Int32) (x8 : Int32) (S : ZS) (C T : Nat) (H : Heap) (locs : List Loc) (ls : Array Slot), self24 x0 x1 x3 x4 x5 x6 x7 x8 S C T → C ≤ kc ∧ T ≤ kt → zH D y A0 s H locs S → lv_has ls 12 [(0, .ref (zh y x0)), (1, .ref (zh y x1)), (3, .int x3), (4, .ref (zh y x4)), (5, .ref (zh y x5)), (6, .int x6), (7, .int x7), (8, .int x8)] → W p l e ({ frames := F, cells := kc, slots := kt, locals := Lo } : Room) s m args below meth c H locs (kc - C) (kt - T) Q (F0 m 24 ls [])) {x0 : Nat} {x1 : Nat} {x3 : Int32} {x4 : Nat} {x5 : Nat} {x6 : Int32} {x7 : Int32} {x8 : Int32} {S : ZS} {C T : Nat} {H : Heap} {locs : List Loc} {ls : Array Slot} (hf : g_X3_putLine_24s Pw rec self24 x0 x1 x3 x4 x5 x6 x7 x8 S C T) (hCT : C ≤ kc ∧ T ≤ kt) (hM : zH D y A0 s H locs S) (hl : lv_has ls 12 [(0, .ref (zh y x0)), (1, .ref (zh y x1)), (3, .int x3), (4, .ref (zh y x4)), (5, .ref (zh y x5)), (6, .int x6), (7, .int x7), (8, .int x8)]) : W p l e ({ frames := F, cells := kc, slots := kt, locals := Lo } : Room) s m args below meth c H locs (kc - C) (kt - T) Q (F0 m 24 ls []) := by
  obtain ⟨hx, hb, hml, hown, hts⟩ := id X
  unfold g_X3_putLine_24s at hf
  refine lv_iload hx hb dX3_putLine_24 (lv_at hl 7 rfl) ?_
  refine lv_sipush (v := (300 : Int32)) hx hb dX3_putLine_26 (by decide) ?_
  refine lv_icmp_ge (tgt := 206) hx hb dX3_putLine_29 (by decide) (fun cc1 => ?_) (fun cc1 => ?_)
  · replace hf := m_ifPT hf cc1
    exact w_X3_putLine_206 hR0 hR2 hrec X hret hf hCT hM (lv_sub hl [] rfl)
  · replace hf := m_ifPF hf cc1
    refine lv_iload hx hb dX3_putLine_32 (lv_at hl 6 rfl) ?_
    refine lv_iconst (v := (-1 : Int32)) hx hb dX3_putLine_34 (by decide) ?_
    refine lv_icmp_eq (tgt := 206) hx hb dX3_putLine_35 (by decide) (fun cc1 => ?_) (fun cc1 => ?_)
    · replace hf := m_ifPT hf cc1
      exact w_X3_putLine_206 hR0 hR2 hrec X hret hf hCT hM (lv_sub hl [] rfl)
    · replace hf := m_ifPF hf cc1
      refine lv_aload_n hx hb dX3_putLine_38 rfl (lv_at hl 1 rfl) ?_
      refine lv_iload hx hb dX3_putLine_39 (lv_at hl 6 rfl) ?_
      obtain ⟨ca, hf⟩ := m_chkPE hf
      replace ca := z_in hM (by decide) ca
      obtain ⟨o1, ho, hf⟩ := m_calPE hf
      refine z_gcallVr (k := 1) (C := RX1) (T := TX1) (N := 8) (fl := zf_1) X hM rfl zc_1 ca (c_X1_at ho) gX3_putLine_X1_at rfl ⟨rfl, rfl⟩ hd_X1_at ⟨Nat.le_trans (Nat.le_of_ble_eq_true rfl) hR0.1, Nat.le_trans (Nat.le_of_ble_eq_true rfl) hR0.2⟩ rfl hl.1 rfl ⟨Nat.sub_le _ _, Nat.sub_le _ _⟩ (Nat.le_of_ble_eq_true rfl) dX3_putLine_41 (fun H locs hM => ?_)
      clear ho
      refine lv_astore (lv' := [(9, .ref (zh y o1.1)), (0, .ref (zh y x0)), (1, .ref (zh y x1)), (3, .int x3), (4, .ref (zh y x4)), (5, .ref (zh y x5)), (6, .int x6), (7, .int x7), (8, .int x8)]) hx hb dX3_putLine_44 hl (by decide) rfl (fun ls hl => ?_)
      refine lv_aload_n hx hb dX3_putLine_46 rfl (lv_at hl 1 rfl) ?_
      refine lv_aload hx hb dX3_putLine_47 (lv_at hl 5 rfl) ?_
      refine lv_aload hx hb dX3_putLine_49 (lv_at hl 0 rfl) ?_
      refine lv_iload hx hb dX3_putLine_51 (lv_at hl 6 rfl) ?_
      refine lv_aload hx hb dX3_putLine_53 (lv_at hl 4 rfl) ?_
      obtain ⟨ca, hf⟩ := m_chkPE hf
      replace ca := z_in hM (by decide) ca
      obtain ⟨mc, ms, hcm, ho⟩ := m_galE hf
      refine z_wcallVv (k := 3) (C := RX3) (T := TX3) (N := 2) (fl := zf_3) X hM rfl zc_3 ca (c_X3_putMove ho) gX3_putLine_X3_putMove rfl ⟨rfl, rfl⟩ ⟨by show kc - (C) + mc ≤ kc; omega, by show kt - (T) + ms ≤ kt; omega⟩ hd_X3_putMove ⟨Nat.le_trans (Nat.le_of_ble_eq_true rfl) hR0.1, Nat.le_trans (Nat.le_of_ble_eq_true rfl) hR0.2⟩ rfl hl.1 rfl (Nat.le_of_ble_eq_true rfl) dX3_putLine_55 (fun S4 H locs hf hM => ?_)
      refine z_eqCS (c2 := kc - (C - mc)) (t2 := kt - (T - ms)) (by omega) (by omega) ?_
      replace hCT : C - mc ≤ kc ∧ T - ms ≤ kt := by omega
      generalize C - mc = C5 at hf hCT ⊢
      generalize T - ms = T6 at hf hCT ⊢
      clear ho hcm
      refine lv_aload hx hb dX3_putLine_58 (lv_at hl 0 rfl) ?_
      obtain ⟨ca, hf⟩ := m_chkPE hf
      replace ca := z_in hM (by decide) ca
      refine z_get (k := 4) (j := 6) (C := RX4) (T := TX4) (N := 7) (fl := zf_4) (v := va_rf ((zP S4 6 o1.1).map (zh y))) X hw_X3_putLine_4 hM rfl zc_4 ca (by decide) fl_X3_putLine_4_6 rfl dX3_putLine_60 ?_
      clear ca
      obtain ⟨b7, hb9, hf⟩ := m_calPE hf
      refine z_topr hb9 ?_
      clear hb9
      obtain ⟨ca, hf⟩ := m_chkPE hf
      replace ca := z_in hM (by decide) ca
      obtain ⟨o8, ho, hf⟩ := m_calPE hf
      refine z_gcallVi (k := 6) (C := RX6) (T := TX6) (N := 2) (fl := zf_6) X hM rfl zc_6 ca (c_X6_size ho) gX3_putLine_X6_size rfl ⟨rfl, rfl⟩ hd_X6_size ⟨Nat.le_trans (Nat.le_of_ble_eq_true rfl) hR0.1, Nat.le_trans (Nat.le_of_ble_eq_true rfl) hR0.2⟩ rfl hl.1 rfl ⟨Nat.sub_le _ _, Nat.sub_le _ _⟩ (Nat.le_of_ble_eq_true rfl) dX3_putLine_63 (fun H locs hM => ?_)
      clear ho
      refine lv_if_le (tgt := 73) hx hb dX3_putLine_66 (by decide) (fun cc1 => ?_) (fun cc1 => ?_)
      · replace hf := m_ifPT hf cc1
        refine lv_iconst (v := (0 : Int32)) hx hb dX3_putLine_73 (by decide) ?_
        exact w_X3_putLine_74 (x0 := x0) (x1 := x1) (x3 := x3) (x4 := x4) (x5 := x5) (x7 := x7) (x8 := x8) (x9 := o1.1) (t0 := (0 : Int32)) hR0 hR2 hrec X hret hself24 hf hCT hM (lv_sub hl [1, 2, 3, 4, 5, 7, 8, 0] rfl)
      · replace hf := m_ifPF hf cc1
        refine lv_iconst (v := (1 : Int32)) hx hb dX3_putLine_69 (by decide) ?_
        refine lv_goto (tgt := 74) hx hb dX3_putLine_70 (by decide) ?_
        exact w_X3_putLine_74 (x0 := x0) (x1 := x1) (x3 := x3) (x4 := x4) (x5 := x5) (x7 := x7) (x8 := x8) (x9 := o1.1) (t0 := (1 : Int32)) hR0 hR2 hrec X hret hself24 hf hCT hM (lv_sub hl [1, 2, 3, 4, 5, 7, 8, 0] rfl)
noncomputable def g_X3_putLine_24 (Pw : Int32 → ZS → Prop) (rec : Nat → Nat → Int32 → Int32 → Nat → ZS → Nat → Nat → (Int32 → ZS → Prop) → Prop) : Nat → Nat → Nat → Int32 → Nat → Nat → Int32 → Int32 → Int32 → ZS → Nat → Nat → Prop
  | 0 => fun _ _ _ _ _ _ _ _ _ _ _ => False
  | n + 1 => g_X3_putLine_24s Pw rec (g_X3_putLine_24 Pw rec n)
theorem w_X3_putLine_24 {p : Program} {l : Launch} {e : Env} {s : State} {m : MethodId} {args : Array Value} {below : List Frame} {meth : Method} {c : Code} {Q : State → Prop} {D : va_G} {y : Nat → ClassId} {A0 : Nat → Prop} {kc kt : Nat} {Pw : Int32 → ZS → Prop} {F Lo Fr Lr : Nat} (hR0 : 7 ≤ F ∧ 185 ≤ Lo) (hR2 : Fr + 1 ≤ F ∧ 8 + (12 + 11) + Lr ≤ Lo) {rec : Nat → Nat → Int32 → Int32 → Nat → ZS → Nat → Nat → (Int32 → ZS → Prop) → Prop} (hrec : ∀ (x0 : Nat) (x1 : Nat) (x2 : Int32) (x3 : Int32) (x4 : Nat) (S : ZS) (mc ms : Nat) (Pw9 : Int32 → ZS → Prop), rec x0 x1 x2 x3 x4 S mc ms Pw9 → zWv l yX3_putLine wsX3_putLine ({ frames := Fr, cells := mc, slots := ms, locals := Lr } : Room) [.ref (zh y x0), .ref (zh y x1), .int x2, .int x3, .ref (zh y x4)] D y S mc ms Pw9) (X : CallFix p m c cX3_putLine 12 s args wsX3_putLine RX3) (hret : zQv p l e ({ frames := F, cells := kc, slots := kt, locals := Lo } : Room) s m args below meth c Q cX3_putLine D y A0 Pw) (n : Nat) : ∀ (x0 : Nat) (x1 : Nat) (x3 : Int32) (x4 : Nat) (x5 : Nat) (x6 : Int32) (x7 : Int32) (x8 : Int32) (S : ZS) (C T : Nat) (H : Heap) (locs : List Loc) (ls : Array Slot), g_X3_putLine_24 Pw rec n x0 x1 x3 x4 x5 x6 x7 x8 S C T → C ≤ kc ∧ T ≤ kt → zH D y A0 s H locs S → lv_has ls 12 [(0, .ref (zh y x0)), (1, .ref (zh y x1)), (3, .int x3), (4, .ref (zh y x4)), (5, .ref (zh y x5)), (6, .int x6), (7, .int x7), (8, .int x8)] → W p l e ({ frames := F, cells := kc, slots := kt, locals := Lo } : Room) s m args below meth c H locs (kc - C) (kt - T) Q (F0 m 24 ls []) := by
  induction n with
  | zero => intro x0 x1 x3 x4 x5 x6 x7 x8 S C T H locs ls hf; exact absurd hf id
  | succ n ih => intro x0 x1 x3 x4 x5 x6 x7 x8 S C T H locs ls hf hCT hM hl; exact ws_X3_putLine_24 hR0 hR2 hrec X hret (self24 := g_X3_putLine_24 Pw rec n) ih hf hCT hM hl
noncomputable def g_X3_putLine_0 (Pw : Int32 → ZS → Prop) (rec : Nat → Nat → Int32 → Int32 → Nat → ZS → Nat → Nat → (Int32 → ZS → Prop) → Prop) (x0 : Nat) (x1 : Nat) (x2 : Int32) (x3 : Int32) (x4 : Nat) (S : ZS) (C T : Nat) : Prop :=
  m_ifQ (x3 ≤ (6 : Int32)) (
  m_chkQ (zK S x0 = 3) (
  m_calP (zP S 1 x0) (fun b1 =>
  m_chkQ (zK S b1 = 15) (
  m_chkQ (¬ (x3 < 0 ∨ zN S b1 ≤ (x3).toNatClampNeg)) (
  m_calP (zB S b1 (x3).toNatClampNeg) (fun b2 =>
  g_X3_putLine_24 Pw rec mFuel x0 x1 x3 x4 b2 (1 : Int32) x2 (0 : Int32) S (C) (T))))))
  ) (
  Pw 0 S
  )

set_option maxRecDepth 100000 in
set_option maxHeartbeats 4000000 in
theorem w_X3_putLine_0 {p : Program} {l : Launch} {e : Env} {s : State} {m : MethodId} {args : Array Value} {below : List Frame} {meth : Method} {c : Code} {Q : State → Prop} {D : va_G} {y : Nat → ClassId} {A0 : Nat → Prop} {kc kt : Nat} {Pw : Int32 → ZS → Prop} {F Lo Fr Lr : Nat} (hR0 : 7 ≤ F ∧ 185 ≤ Lo) (hR2 : Fr + 1 ≤ F ∧ 8 + (12 + 11) + Lr ≤ Lo) {rec : Nat → Nat → Int32 → Int32 → Nat → ZS → Nat → Nat → (Int32 → ZS → Prop) → Prop} (hrec : ∀ (x0 : Nat) (x1 : Nat) (x2 : Int32) (x3 : Int32) (x4 : Nat) (S : ZS) (mc ms : Nat) (Pw9 : Int32 → ZS → Prop), rec x0 x1 x2 x3 x4 S mc ms Pw9 → zWv l yX3_putLine wsX3_putLine ({ frames := Fr, cells := mc, slots := ms, locals := Lr } : Room) [.ref (zh y x0), .ref (zh y x1), .int x2, .int x3, .ref (zh y x4)] D y S mc ms Pw9) (X : CallFix p m c cX3_putLine 12 s args wsX3_putLine RX3) (hret : zQv p l e ({ frames := F, cells := kc, slots := kt, locals := Lo } : Room) s m args below meth c Q cX3_putLine D y A0 Pw) {x0 : Nat} {x1 : Nat} {x2 : Int32} {x3 : Int32} {x4 : Nat} {S : ZS} {C T : Nat} {H : Heap} {locs : List Loc} {ls : Array Slot} (hf : g_X3_putLine_0 Pw rec x0 x1 x2 x3 x4 S C T) (hCT : C ≤ kc ∧ T ≤ kt) (hM : zH D y A0 s H locs S) (hl : lv_has ls 12 [(0, .ref (zh y x0)), (1, .ref (zh y x1)), (2, .int x2), (3, .int x3), (4, .ref (zh y x4))]) : W p l e ({ frames := F, cells := kc, slots := kt, locals := Lo } : Room) s m args below meth c H locs (kc - C) (kt - T) Q (F0 m 0 ls []) := by
  obtain ⟨hx, hb, hml, hown, hts⟩ := id X
  unfold g_X3_putLine_0 at hf
  refine lv_iload_n hx hb dX3_putLine_0 rfl (lv_at hl 3 rfl) ?_
  refine lv_bipush (v := (6 : Int32)) hx hb dX3_putLine_1 (by decide) ?_
  refine lv_icmp_le (tgt := 7) hx hb dX3_putLine_3 (by decide) (fun cc1 => ?_) (fun cc1 => ?_)
  · replace hf := m_ifPT hf cc1
    refine lv_aload_n hx hb dX3_putLine_7 rfl (lv_at hl 0 rfl) ?_
    obtain ⟨ca, hf⟩ := m_chkPE hf
    replace ca := z_in hM (by decide) ca
    refine z_get (k := 3) (j := 1) (C := RX3) (T := TX3) (N := 2) (fl := zf_3) (v := va_rf ((zP S 1 x0).map (zh y))) X hw_X3_putLine_3 hM rfl zc_3 ca (by decide) fl_X3_putLine_3_1 rfl dX3_putLine_8 ?_
    clear ca
    obtain ⟨b1, hb9, hf⟩ := m_calPE hf
    refine z_topr hb9 ?_
    clear hb9
    refine lv_iload_n hx hb dX3_putLine_11 rfl (lv_at hl 3 rfl) ?_
    obtain ⟨ca, hf⟩ := m_chkPE hf
    replace ca := z_in hM (by decide) ca
    obtain ⟨cd, hf⟩ := m_chkPE hf
    refine z_aald (k := 15) (t0 := 2) (C := "MoveTexts$Board") X hM (fun _ _ _ _ _ => rfl) rfl ca cd dX3_putLine_12 ?_
    clear ca cd
    obtain ⟨b2, hb9, hf⟩ := m_calPE hf
    refine z_topr hb9 ?_
    clear hb9
    refine lv_astore (lv' := [(5, .ref (zh y b2)), (0, .ref (zh y x0)), (1, .ref (zh y x1)), (2, .int x2), (3, .int x3), (4, .ref (zh y x4))]) hx hb dX3_putLine_13 hl (by decide) rfl (fun ls hl => ?_)
    refine lv_iconst (v := (1 : Int32)) hx hb dX3_putLine_15 (by decide) ?_
    refine lv_istore (lv' := [(6, .int (1 : Int32)), (5, .ref (zh y b2)), (0, .ref (zh y x0)), (1, .ref (zh y x1)), (2, .int x2), (3, .int x3), (4, .ref (zh y x4))]) hx hb dX3_putLine_16 hl (by decide) rfl (fun ls hl => ?_)
    refine lv_iload_n hx hb dX3_putLine_18 rfl (lv_at hl 4 rfl) ?_
    refine lv_istore (lv' := [(7, .int x2), (6, .int (1 : Int32)), (5, .ref (zh y b2)), (0, .ref (zh y x0)), (1, .ref (zh y x1)), (2, .int x2), (3, .int x3), (4, .ref (zh y x4))]) hx hb dX3_putLine_19 hl (by decide) rfl (fun ls hl => ?_)
    refine lv_iconst (v := (0 : Int32)) hx hb dX3_putLine_21 (by decide) ?_
    refine lv_istore (lv' := [(8, .int (0 : Int32)), (7, .int x2), (6, .int (1 : Int32)), (5, .ref (zh y b2)), (0, .ref (zh y x0)), (1, .ref (zh y x1)), (2, .int x2), (3, .int x3), (4, .ref (zh y x4))]) hx hb dX3_putLine_22 hl (by decide) rfl (fun ls hl => ?_)
    exact w_X3_putLine_24 hR0 hR2 hrec X hret _ x0 x1 x3 x4 b2 (1 : Int32) x2 (0 : Int32) _ _ _ _ _ _ hf hCT hM (lv_sub hl [4, 5, 7, 8, 3, 2, 1, 0] rfl)
  · replace hf := m_ifPF hf cc1
    exact hret _ _ _ H locs _ ls hf hM dX3_putLine_6
noncomputable def gr_X3_putLine : Nat → Nat → Nat → Int32 → Int32 → Nat → ZS → Nat → Nat → (Int32 → ZS → Prop) → Prop
  | 0 => fun _ _ _ _ _ _ _ _ _ => False
  | n + 1 => fun x0 x1 x2 x3 x4 S mc ms Pw => g_X3_putLine_0 Pw (gr_X3_putLine n) x0 x1 x2 x3 x4 S mc ms
theorem cr_X3_putLine {l : Launch} {D : va_G} {y : Nat → ClassId} (n : Nat) : ∀ (x0 : Nat) (x1 : Nat) (x2 : Int32) (x3 : Int32) (x4 : Nat) (S : ZS) (kc kt : Nat) (Pw : Int32 → ZS → Prop), gr_X3_putLine n x0 x1 x2 x3 x4 S kc kt Pw → zWv l yX3_putLine wsX3_putLine ({ frames := 7 + n, cells := kc, slots := kt, locals := 185 + n * 31 } : Room) [.ref (zh y x0), .ref (zh y x1), .int x2, .int x3, .ref (zh y x4)] D y S kc kt Pw := by
  induction n with
  | zero => intro x0 x1 x2 x3 x4 S kc kt Pw hf; exact absurd hf id
  | succ n ih =>
    intro x0 x1 x2 x3 x4 S kc kt Pw hf
    exact z_wentV (own := RX3) (cc := cX3_putLine) (maxL := 12) (by decide) rfl rfl (Nat.le_of_ble_eq_true rfl) ⟨rfl, rfl⟩ (fun p e s m args below meth c A0 Q H locs ls X hret hM hl => w_X3_putLine_0 ⟨by show 7 ≤ 7 + (n + 1); omega, by show 185 ≤ 185 + (n + 1) * 31; omega⟩ ⟨by show 7 + n + 1 ≤ 7 + (n + 1); omega, by show 8 + (12 + 11) + (185 + n * 31) ≤ 185 + (n + 1) * 31; omega⟩ ih X hret hf ⟨Nat.le_refl _, Nat.le_refl _⟩ hM (lv_sub hl [0, 1, 2, 3, 4] rfl))
noncomputable def g_X3_putLine (x0 : Nat) (x1 : Nat) (x2 : Int32) (x3 : Int32) (x4 : Nat) (S : ZS) (mc ms : Nat) (Pw : Int32 → ZS → Prop) : Prop := gr_X3_putLine 8 x0 x1 x2 x3 x4 S mc ms Pw
theorem c_X3_putLine {l : Launch} {D : va_G} {y : Nat → ClassId} {x0 : Nat} {x1 : Nat} {x2 : Int32} {x3 : Int32} {x4 : Nat} {S : ZS} {kc kt : Nat} {Pw : Int32 → ZS → Prop} (hf : g_X3_putLine x0 x1 x2 x3 x4 S kc kt Pw) : zWv l yX3_putLine wsX3_putLine ({ frames := 15, cells := kc, slots := kt, locals := 433 } : Room) [.ref (zh y x0), .ref (zh y x1), .int x2, .int x3, .ref (zh y x4)] D y S kc kt Pw := cr_X3_putLine 8 x0 x1 x2 x3 x4 S kc kt Pw hf
end
section
theorem hd_X7_isLegal : yX7_isLegal.cls = RX7 ∧ yX7_isLegal.cls ≠ "java/lang/invoke/MethodHandle" ∧ yX7_isLegal.cls ≠ "java/lang/invoke/VarHandle" ∧ (parseMethodDescriptor yX7_isLegal.desc).map (fun d => d.parameters.length) = some 2 := by decide +kernel
noncomputable def f_X7_isLegal_47 (S : ZS) : Option (Int32 × ZS) :=
  m_chk (vp_nar .boolean (0 : Int32) = (0 : Int32)) (some ((0 : Int32), S))

set_option maxRecDepth 100000 in
set_option maxHeartbeats 4000000 in
theorem w_X7_isLegal_47 {p : Program} {l : Launch} {e : Env} {s : State} {m : MethodId} {args : Array Value} {below : List Frame} {meth : Method} {c : Code} {Q : State → Prop} {D : va_G} {y : Nat → ClassId} {A0 : Nat → Prop} {o : Int32 × ZS} (X : CallFix p m c cX7_isLegal 6 s args wsX7_isLegal RX7) (hret : zRi p l e ({ frames := 3, cells := 0, slots := 0, locals := 106 } : Room) s m args below meth c Q cX7_isLegal D y A0 .boolean o) {S : ZS} {H : Heap} {locs : List Loc} {ls : Array Slot} (hf : f_X7_isLegal_47  S = some o) (hM : zH D y A0 s H locs S) (hl : lv_has ls 6 []) : W p l e ({ frames := 3, cells := 0, slots := 0, locals := 106 } : Room) s m args below meth c H locs 0 0 Q (F0 m 47 ls []) := by
  obtain ⟨hx, hb, hml, hown, hts⟩ := id X
  unfold f_X7_isLegal_47 at hf
  refine lv_iconst (v := (0 : Int32)) hx hb dX7_isLegal_47 (by decide) ?_
  obtain ⟨cd, hf⟩ := m_chkE hf
  cases hf
  exact hret H locs _ ls hM (m_nb cd) dX7_isLegal_48
noncomputable def f_X7_isLegal_83 (t0 : Int32) (S : ZS) : Option (Int32 × ZS) :=
  m_chk (vp_nar .boolean t0 = t0) (some (t0, S))

set_option maxRecDepth 100000 in
set_option maxHeartbeats 4000000 in
theorem w_X7_isLegal_83 {p : Program} {l : Launch} {e : Env} {s : State} {m : MethodId} {args : Array Value} {below : List Frame} {meth : Method} {c : Code} {Q : State → Prop} {D : va_G} {y : Nat → ClassId} {A0 : Nat → Prop} {o : Int32 × ZS} (X : CallFix p m c cX7_isLegal 6 s args wsX7_isLegal RX7) (hret : zRi p l e ({ frames := 3, cells := 0, slots := 0, locals := 106 } : Room) s m args below meth c Q cX7_isLegal D y A0 .boolean o) {t0 : Int32} {S : ZS} {H : Heap} {locs : List Loc} {ls : Array Slot} (hf : f_X7_isLegal_83 t0 S = some o) (hM : zH D y A0 s H locs S) (hl : lv_has ls 6 []) : W p l e ({ frames := 3, cells := 0, slots := 0, locals := 106 } : Room) s m args below meth c H locs 0 0 Q (F0 m 83 ls [.int t0]) := by
  obtain ⟨hx, hb, hml, hown, hts⟩ := id X
  unfold f_X7_isLegal_83 at hf
  obtain ⟨cd, hf⟩ := m_chkE hf
  cases hf
  exact hret H locs _ ls hM (m_nb cd) dX7_isLegal_83
noncomputable def f_X7_isLegal_82 (S : ZS) : Option (Int32 × ZS) :=
  f_X7_isLegal_83 (0 : Int32) S

set_option maxRecDepth 100000 in
set_option maxHeartbeats 4000000 in
theorem w_X7_isLegal_82 {p : Program} {l : Launch} {e : Env} {s : State} {m : MethodId} {args : Array Value} {below : List Frame} {meth : Method} {c : Code} {Q : State → Prop} {D : va_G} {y : Nat → ClassId} {A0 : Nat → Prop} {o : Int32 × ZS} (X : CallFix p m c cX7_isLegal 6 s args wsX7_isLegal RX7) (hret : zRi p l e ({ frames := 3, cells := 0, slots := 0, locals := 106 } : Room) s m args below meth c Q cX7_isLegal D y A0 .boolean o) {S : ZS} {H : Heap} {locs : List Loc} {ls : Array Slot} (hf : f_X7_isLegal_82  S = some o) (hM : zH D y A0 s H locs S) (hl : lv_has ls 6 []) : W p l e ({ frames := 3, cells := 0, slots := 0, locals := 106 } : Room) s m args below meth c H locs 0 0 Q (F0 m 82 ls []) := by
  obtain ⟨hx, hb, hml, hown, hts⟩ := id X
  unfold f_X7_isLegal_82 at hf
  refine lv_iconst (v := (0 : Int32)) hx hb dX7_isLegal_82 (by decide) ?_
  exact w_X7_isLegal_83 (t0 := (0 : Int32)) X hret hf hM (lv_sub hl [] rfl)
noncomputable def f_X7_isLegal_66 (x0 : Nat) (x1 : Nat) (x2 : Int32) (t0 : Int32) (t1 : Int32) (S : ZS) : Option (Int32 × ZS) :=
  m_if (t1 = t0) (
  m_chk (zK S x0 = 7) (
  m_cal (f_X7_isSafe x0 x1 x2 S) (fun o1 =>
  m_if (o1.1 = 0) (
  f_X7_isLegal_82  o1.2
  ) (
  f_X7_isLegal_83 (1 : Int32) o1.2
  )))
  ) (
  f_X7_isLegal_82  S
  )

set_option maxRecDepth 100000 in
set_option maxHeartbeats 4000000 in
theorem w_X7_isLegal_66 {p : Program} {l : Launch} {e : Env} {s : State} {m : MethodId} {args : Array Value} {below : List Frame} {meth : Method} {c : Code} {Q : State → Prop} {D : va_G} {y : Nat → ClassId} {A0 : Nat → Prop} {o : Int32 × ZS} (X : CallFix p m c cX7_isLegal 6 s args wsX7_isLegal RX7) (hret : zRi p l e ({ frames := 3, cells := 0, slots := 0, locals := 106 } : Room) s m args below meth c Q cX7_isLegal D y A0 .boolean o) {x0 : Nat} {x1 : Nat} {x2 : Int32} {t0 : Int32} {t1 : Int32} {S : ZS} {H : Heap} {locs : List Loc} {ls : Array Slot} (hf : f_X7_isLegal_66 x0 x1 x2 t0 t1 S = some o) (hM : zH D y A0 s H locs S) (hl : lv_has ls 6 [(0, .ref (zh y x0)), (1, .ref (zh y x1)), (2, .int x2)]) : W p l e ({ frames := 3, cells := 0, slots := 0, locals := 106 } : Room) s m args below meth c H locs 0 0 Q (F0 m 66 ls [.int t0, .int t1]) := by
  obtain ⟨hx, hb, hml, hown, hts⟩ := id X
  unfold f_X7_isLegal_66 at hf
  refine lv_icmp_ne (tgt := 82) hx hb dX7_isLegal_66 (by decide) (fun cc1 => ?_) (fun cc1 => ?_)
  · replace hf := m_ifF hf cc1
    exact w_X7_isLegal_82 X hret hf hM (lv_sub hl [] rfl)
  · replace hf := m_ifT hf cc1
    refine lv_aload_n hx hb dX7_isLegal_69 rfl (lv_at hl 0 rfl) ?_
    refine lv_aload_n hx hb dX7_isLegal_70 rfl (lv_at hl 1 rfl) ?_
    refine lv_iload_n hx hb dX7_isLegal_71 rfl (lv_at hl 2 rfl) ?_
    obtain ⟨ca, hf⟩ := m_chkE hf
    replace ca := z_in hM (by decide) ca
    obtain ⟨o1, ho, hf⟩ := m_calE hf
    refine z_callVi (k := 7) (C := RX7) (T := TX7) (N := 2) (fl := zf_7) X hM rfl zc_7 ca (c_X7_isSafe ho) gX7_isLegal_X7_isSafe rfl ⟨rfl, rfl⟩ hd_X7_isSafe ⟨Nat.le_of_ble_eq_true rfl, Nat.le_of_ble_eq_true rfl⟩ rfl hl.1 rfl (Nat.le_of_ble_eq_true rfl) dX7_isLegal_72 (fun H locs hM => ?_)
    clear ho
    refine lv_if_eq (tgt := 82) hx hb dX7_isLegal_75 (by decide) (fun cc1 => ?_) (fun cc1 => ?_)
    · replace hf := m_ifT hf cc1
      exact w_X7_isLegal_82 X hret hf hM (lv_sub hl [] rfl)
    · replace hf := m_ifF hf cc1
      refine lv_iconst (v := (1 : Int32)) hx hb dX7_isLegal_78 (by decide) ?_
      refine lv_goto (tgt := 83) hx hb dX7_isLegal_79 (by decide) ?_
      exact w_X7_isLegal_83 (t0 := (1 : Int32)) X hret hf hM (lv_sub hl [] rfl)
noncomputable def f_X7_isLegal_0 (x0 : Nat) (x1 : Nat) (x2 : Int32) (S : ZS) : Option (Int32 × ZS) :=
  m_bnd (x2 &&& (63 : Int32)) (fun v1 =>
  m_bnd (x2 >>> ((6 : Int32) &&& 31)) (fun v2 =>
  m_bnd (v2 &&& (63 : Int32)) (fun v3 =>
  m_bnd (x2 >>> ((12 : Int32) &&& 31)) (fun v4 =>
  m_if (v4 < 0) (
  f_X7_isLegal_47  S
  ) (
  m_if (v4 = (1 : Int32)) (
  f_X7_isLegal_47  S
  ) (
  m_if ((5 : Int32) < v4) (
  f_X7_isLegal_47  S
  ) (
  m_chk (zK S x1 = 0) (
  m_cal (f_X0_reaches x1 v1 v3 S) (fun o5 =>
  m_if (o5.1 = 0) (
  f_X7_isLegal_47  o5.2
  ) (
  m_chk (zK o5.2 x1 = 0) (
  m_cal (f_X0_becomesAnother x1 v1 v3 o5.2) (fun o6 =>
  m_if (v4 = 0) (
  f_X7_isLegal_66 x0 x1 x2 (0 : Int32) o6.1 o6.2
  ) (
  f_X7_isLegal_66 x0 x1 x2 (1 : Int32) o6.1 o6.2
  )))
  )))
  )
  )
  )))))

set_option maxRecDepth 100000 in
set_option maxHeartbeats 4000000 in
theorem w_X7_isLegal_0 {p : Program} {l : Launch} {e : Env} {s : State} {m : MethodId} {args : Array Value} {below : List Frame} {meth : Method} {c : Code} {Q : State → Prop} {D : va_G} {y : Nat → ClassId} {A0 : Nat → Prop} {o : Int32 × ZS} (X : CallFix p m c cX7_isLegal 6 s args wsX7_isLegal RX7) (hret : zRi p l e ({ frames := 3, cells := 0, slots := 0, locals := 106 } : Room) s m args below meth c Q cX7_isLegal D y A0 .boolean o) {x0 : Nat} {x1 : Nat} {x2 : Int32} {S : ZS} {H : Heap} {locs : List Loc} {ls : Array Slot} (hf : f_X7_isLegal_0 x0 x1 x2 S = some o) (hM : zH D y A0 s H locs S) (hl : lv_has ls 6 [(0, .ref (zh y x0)), (1, .ref (zh y x1)), (2, .int x2)]) : W p l e ({ frames := 3, cells := 0, slots := 0, locals := 106 } : Room) s m args below meth c H locs 0 0 Q (F0 m 0 ls []) := by
  obtain ⟨hx, hb, hml, hown, hts⟩ := id X
  unfold f_X7_isLegal_0 at hf
  refine lv_iload_n hx hb dX7_isLegal_0 rfl (lv_at hl 2 rfl) ?_
  refine lv_bipush (v := (63 : Int32)) hx hb dX7_isLegal_1 (by decide) ?_
  refine lv_iand hx hb dX7_isLegal_3 ?_
  obtain ⟨v1, ev, hf⟩ := m_bndE hf
  refine m_top ev ?_
  clear ev
  refine lv_istore_n (lv' := [(3, .int v1), (0, .ref (zh y x0)), (1, .ref (zh y x1)), (2, .int x2)]) hx hb dX7_isLegal_4 rfl hl (by decide) rfl (fun ls hl => ?_)
  refine lv_iload_n hx hb dX7_isLegal_5 rfl (lv_at hl 3 rfl) ?_
  refine lv_bipush (v := (6 : Int32)) hx hb dX7_isLegal_6 (by decide) ?_
  refine lv_ishr hx hb dX7_isLegal_8 ?_
  obtain ⟨v2, ev, hf⟩ := m_bndE hf
  refine m_top ev ?_
  clear ev
  refine lv_bipush (v := (63 : Int32)) hx hb dX7_isLegal_9 (by decide) ?_
  refine lv_iand hx hb dX7_isLegal_11 ?_
  obtain ⟨v3, ev, hf⟩ := m_bndE hf
  refine m_top ev ?_
  clear ev
  refine lv_istore (lv' := [(4, .int v3), (3, .int v1), (0, .ref (zh y x0)), (1, .ref (zh y x1)), (2, .int x2)]) hx hb dX7_isLegal_12 hl (by decide) rfl (fun ls hl => ?_)
  refine lv_iload_n hx hb dX7_isLegal_14 rfl (lv_at hl 4 rfl) ?_
  refine lv_bipush (v := (12 : Int32)) hx hb dX7_isLegal_15 (by decide) ?_
  refine lv_ishr hx hb dX7_isLegal_17 ?_
  obtain ⟨v4, ev, hf⟩ := m_bndE hf
  refine m_top ev ?_
  clear ev
  refine lv_istore (lv' := [(5, .int v4), (4, .int v3), (3, .int v1), (0, .ref (zh y x0)), (1, .ref (zh y x1)), (2, .int x2)]) hx hb dX7_isLegal_18 hl (by decide) rfl (fun ls hl => ?_)
  refine lv_iload hx hb dX7_isLegal_20 (lv_at hl 0 rfl) ?_
  refine lv_if_lt (tgt := 47) hx hb dX7_isLegal_22 (by decide) (fun cc1 => ?_) (fun cc1 => ?_)
  · replace hf := m_ifT hf cc1
    exact w_X7_isLegal_47 X hret hf hM (lv_sub hl [] rfl)
  · replace hf := m_ifF hf cc1
    refine lv_iload hx hb dX7_isLegal_25 (lv_at hl 0 rfl) ?_
    refine lv_iconst (v := (1 : Int32)) hx hb dX7_isLegal_27 (by decide) ?_
    refine lv_icmp_eq (tgt := 47) hx hb dX7_isLegal_28 (by decide) (fun cc1 => ?_) (fun cc1 => ?_)
    · replace hf := m_ifT hf cc1
      exact w_X7_isLegal_47 X hret hf hM (lv_sub hl [] rfl)
    · replace hf := m_ifF hf cc1
      refine lv_iload hx hb dX7_isLegal_31 (lv_at hl 0 rfl) ?_
      refine lv_iconst (v := (5 : Int32)) hx hb dX7_isLegal_33 (by decide) ?_
      refine lv_icmp_gt (tgt := 47) hx hb dX7_isLegal_34 (by decide) (fun cc1 => ?_) (fun cc1 => ?_)
      · replace hf := m_ifT hf cc1
        exact w_X7_isLegal_47 X hret hf hM (lv_sub hl [] rfl)
      · replace hf := m_ifF hf cc1
        refine lv_aload_n hx hb dX7_isLegal_37 rfl (lv_at hl 4 rfl) ?_
        refine lv_iload_n hx hb dX7_isLegal_38 rfl (lv_at hl 2 rfl) ?_
        refine lv_iload hx hb dX7_isLegal_39 (lv_at hl 1 rfl) ?_
        obtain ⟨ca, hf⟩ := m_chkE hf
        replace ca := z_in hM (by decide) ca
        obtain ⟨o5, ho, hf⟩ := m_calE hf
        refine z_callVi (k := 0) (C := RX0) (T := TX0) (N := 7) (fl := zf_0) X hM rfl zc_0 ca (c_X0_reaches ho) gX7_isLegal_X0_reaches rfl ⟨rfl, rfl⟩ hd_X0_reaches ⟨Nat.le_of_ble_eq_true rfl, Nat.le_of_ble_eq_true rfl⟩ rfl hl.1 rfl (Nat.le_of_ble_eq_true rfl) dX7_isLegal_41 (fun H locs hM => ?_)
        clear ho
        refine lv_if_ne (tgt := 49) hx hb dX7_isLegal_44 (by decide) (fun cc1 => ?_) (fun cc1 => ?_)
        · replace hf := m_ifF hf cc1
          refine lv_aload_n hx hb dX7_isLegal_49 rfl (lv_at hl 4 rfl) ?_
          refine lv_iload_n hx hb dX7_isLegal_50 rfl (lv_at hl 2 rfl) ?_
          refine lv_iload hx hb dX7_isLegal_51 (lv_at hl 1 rfl) ?_
          obtain ⟨ca, hf⟩ := m_chkE hf
          replace ca := z_in hM (by decide) ca
          obtain ⟨o6, ho, hf⟩ := m_calE hf
          refine z_callVi (k := 0) (C := RX0) (T := TX0) (N := 7) (fl := zf_0) X hM rfl zc_0 ca (c_X0_becomesAnother ho) gX7_isLegal_X0_becomesAnother rfl ⟨rfl, rfl⟩ hd_X0_becomesAnother ⟨Nat.le_of_ble_eq_true rfl, Nat.le_of_ble_eq_true rfl⟩ rfl hl.1 rfl (Nat.le_of_ble_eq_true rfl) dX7_isLegal_53 (fun H locs hM => ?_)
          clear ho
          refine lv_iload hx hb dX7_isLegal_56 (lv_at hl 0 rfl) ?_
          refine lv_if_eq (tgt := 65) hx hb dX7_isLegal_58 (by decide) (fun cc1 => ?_) (fun cc1 => ?_)
          · replace hf := m_ifT hf cc1
            refine lv_iconst (v := (0 : Int32)) hx hb dX7_isLegal_65 (by decide) ?_
            exact w_X7_isLegal_66 (x0 := x0) (x1 := x1) (x2 := x2) (t0 := (0 : Int32)) (t1 := o6.1) X hret hf hM (lv_sub hl [3, 4, 5] rfl)
          · replace hf := m_ifF hf cc1
            refine lv_iconst (v := (1 : Int32)) hx hb dX7_isLegal_61 (by decide) ?_
            refine lv_goto (tgt := 66) hx hb dX7_isLegal_62 (by decide) ?_
            exact w_X7_isLegal_66 (x0 := x0) (x1 := x1) (x2 := x2) (t0 := (1 : Int32)) (t1 := o6.1) X hret hf hM (lv_sub hl [3, 4, 5] rfl)
        · replace hf := m_ifT hf cc1
          exact w_X7_isLegal_47 X hret hf hM (lv_sub hl [] rfl)
noncomputable def f_X7_isLegal (x0 : Nat) (x1 : Nat) (x2 : Int32) (S : ZS) : Option (Int32 × ZS) := f_X7_isLegal_0 x0 x1 x2 S
theorem c_X7_isLegal {l : Launch} {D : va_G} {y : Nat → ClassId} {x0 : Nat} {x1 : Nat} {x2 : Int32} {S : ZS} {o : Int32 × ZS} (hf : f_X7_isLegal x0 x1 x2 S = some o) : zMi l yX7_isLegal wsX7_isLegal ({ frames := 3, cells := 0, slots := 0, locals := 106 } : Room) [.ref (zh y x0), .ref (zh y x1), .int x2] D y S o :=
  z_entryI (own := RX7) (cc := cX7_isLegal) (maxL := 6) (by decide) rfl rfl (Nat.le_of_ble_eq_true rfl) (fun p e s m args below meth c A0 Q H locs ls X hret hM hl => w_X7_isLegal_0 X hret hf hM (lv_sub hl [0, 1, 2] rfl))
theorem hd_X7_legalMove : yX7_legalMove.cls = RX7 ∧ yX7_legalMove.cls ≠ "java/lang/invoke/MethodHandle" ∧ yX7_legalMove.cls ≠ "java/lang/invoke/VarHandle" ∧ (parseMethodDescriptor yX7_legalMove.desc).map (fun d => d.parameters.length) = some 2 := by decide +kernel
noncomputable def f_X7_legalMove_110 (self11 : Nat → Nat → Int32 → Int32 → ZS → Option (Int32 × ZS)) (self21 : Nat → Nat → Int32 → Int32 → Int32 → ZS → Option (Int32 × ZS)) (x0 : Nat) (x1 : Nat) (x3 : Int32) (x4 : Int32) (x5 : Int32) (S : ZS) : Option (Int32 × ZS) :=
  m_bnd (x5 + (1 : Int32)) (fun v1 =>
  self21 x0 x1 x3 x4 v1 S)

set_option maxRecDepth 100000 in
set_option maxHeartbeats 4000000 in
theorem w_X7_legalMove_110 {p : Program} {l : Launch} {e : Env} {s : State} {m : MethodId} {args : Array Value} {below : List Frame} {meth : Method} {c : Code} {Q : State → Prop} {D : va_G} {y : Nat → ClassId} {A0 : Nat → Prop} {o : Int32 × ZS} (X : CallFix p m c cX7_legalMove 8 s args wsX7_legalMove RX7) (hret : zRi p l e ({ frames := 3, cells := 0, slots := 0, locals := 106 } : Room) s m args below meth c Q cX7_legalMove D y A0 .int o) {self11 : Nat → Nat → Int32 → Int32 → ZS → Option (Int32 × ZS)} (hself11 : ∀ (x0 : Nat) (x1 : Nat) (x3 : Int32) (x4 : Int32) (S : ZS) (H : Heap) (locs : List Loc) (ls : Array Slot), self11 x0 x1 x3 x4 S = some o → zH D y A0 s H locs S → lv_has ls 8 [(0, .ref (zh y x0)), (1, .ref (zh y x1)), (3, .int x3), (4, .int x4)] → W p l e ({ frames := 3, cells := 0, slots := 0, locals := 106 } : Room) s m args below meth c H locs 0 0 Q (F0 m 11 ls [])) {self21 : Nat → Nat → Int32 → Int32 → Int32 → ZS → Option (Int32 × ZS)} (hself21 : ∀ (x0 : Nat) (x1 : Nat) (x3 : Int32) (x4 : Int32) (x5 : Int32) (S : ZS) (H : Heap) (locs : List Loc) (ls : Array Slot), self21 x0 x1 x3 x4 x5 S = some o → zH D y A0 s H locs S → lv_has ls 8 [(0, .ref (zh y x0)), (1, .ref (zh y x1)), (3, .int x3), (4, .int x4), (5, .int x5)] → W p l e ({ frames := 3, cells := 0, slots := 0, locals := 106 } : Room) s m args below meth c H locs 0 0 Q (F0 m 21 ls [])) {x0 : Nat} {x1 : Nat} {x3 : Int32} {x4 : Int32} {x5 : Int32} {S : ZS} {H : Heap} {locs : List Loc} {ls : Array Slot} (hf : f_X7_legalMove_110 self11 self21 x0 x1 x3 x4 x5 S = some o) (hM : zH D y A0 s H locs S) (hl : lv_has ls 8 [(0, .ref (zh y x0)), (1, .ref (zh y x1)), (3, .int x3), (4, .int x4), (5, .int x5)]) : W p l e ({ frames := 3, cells := 0, slots := 0, locals := 106 } : Room) s m args below meth c H locs 0 0 Q (F0 m 110 ls []) := by
  obtain ⟨hx, hb, hml, hown, hts⟩ := id X
  unfold f_X7_legalMove_110 at hf
  obtain ⟨v1, ev, hf⟩ := m_bndE hf
  refine lv_iinc (v := v1) (lv' := [(5, .int v1), (0, .ref (zh y x0)), (1, .ref (zh y x1)), (3, .int x3), (4, .int x4)]) hx hb dX7_legalMove_110 hl (k := 4) rfl (by rw [ev]; rfl) (by decide) rfl (fun ls hl => ?_)
  clear ev
  refine lv_goto (tgt := 21) hx hb dX7_legalMove_113 (by decide) ?_
  exact hself21 x0 x1 x3 x4 v1 _ _ _ _ hf hM (lv_sub hl [1, 2, 3, 4, 0] rfl)
noncomputable def f_X7_legalMove_104 (t0 : Int32) (S : ZS) : Option (Int32 × ZS) :=
  some (t0, S)

set_option maxRecDepth 100000 in
set_option maxHeartbeats 4000000 in
theorem w_X7_legalMove_104 {p : Program} {l : Launch} {e : Env} {s : State} {m : MethodId} {args : Array Value} {below : List Frame} {meth : Method} {c : Code} {Q : State → Prop} {D : va_G} {y : Nat → ClassId} {A0 : Nat → Prop} {o : Int32 × ZS} (X : CallFix p m c cX7_legalMove 8 s args wsX7_legalMove RX7) (hret : zRi p l e ({ frames := 3, cells := 0, slots := 0, locals := 106 } : Room) s m args below meth c Q cX7_legalMove D y A0 .int o) {t0 : Int32} {S : ZS} {H : Heap} {locs : List Loc} {ls : Array Slot} (hf : f_X7_legalMove_104 t0 S = some o) (hM : zH D y A0 s H locs S) (hl : lv_has ls 8 []) : W p l e ({ frames := 3, cells := 0, slots := 0, locals := 106 } : Room) s m args below meth c H locs 0 0 Q (F0 m 104 ls [.int t0]) := by
  obtain ⟨hx, hb, hml, hown, hts⟩ := id X
  unfold f_X7_legalMove_104 at hf
  cases hf
  exact hret H locs _ ls hM rfl dX7_legalMove_104
noncomputable def f_X7_legalMove_75 (self11 : Nat → Nat → Int32 → Int32 → ZS → Option (Int32 × ZS)) (self21 : Nat → Nat → Int32 → Int32 → Int32 → ZS → Option (Int32 × ZS)) (x0 : Nat) (x1 : Nat) (x3 : Int32) (x4 : Int32) (x5 : Int32) (x6 : Int32) (t0 : Int32) (S : ZS) : Option (Int32 × ZS) :=
  m_if (t0 ≤ x3) (
  m_bnd (x3 - t0) (fun v1 =>
  f_X7_legalMove_110 self11 self21 x0 x1 v1 x4 x5 S)
  ) (
  m_if (t0 = (1 : Int32)) (
  f_X7_legalMove_104 x6 S
  ) (
  m_bnd ((2 : Int32) + x3) (fun v2 =>
  m_bnd ((4096 : Int32) * v2) (fun v3 =>
  m_bnd (x6 + v3) (fun v4 =>
  f_X7_legalMove_104 v4 S)))
  )
  )

set_option maxRecDepth 100000 in
set_option maxHeartbeats 4000000 in
theorem w_X7_legalMove_75 {p : Program} {l : Launch} {e : Env} {s : State} {m : MethodId} {args : Array Value} {below : List Frame} {meth : Method} {c : Code} {Q : State → Prop} {D : va_G} {y : Nat → ClassId} {A0 : Nat → Prop} {o : Int32 × ZS} (X : CallFix p m c cX7_legalMove 8 s args wsX7_legalMove RX7) (hret : zRi p l e ({ frames := 3, cells := 0, slots := 0, locals := 106 } : Room) s m args below meth c Q cX7_legalMove D y A0 .int o) {self11 : Nat → Nat → Int32 → Int32 → ZS → Option (Int32 × ZS)} (hself11 : ∀ (x0 : Nat) (x1 : Nat) (x3 : Int32) (x4 : Int32) (S : ZS) (H : Heap) (locs : List Loc) (ls : Array Slot), self11 x0 x1 x3 x4 S = some o → zH D y A0 s H locs S → lv_has ls 8 [(0, .ref (zh y x0)), (1, .ref (zh y x1)), (3, .int x3), (4, .int x4)] → W p l e ({ frames := 3, cells := 0, slots := 0, locals := 106 } : Room) s m args below meth c H locs 0 0 Q (F0 m 11 ls [])) {self21 : Nat → Nat → Int32 → Int32 → Int32 → ZS → Option (Int32 × ZS)} (hself21 : ∀ (x0 : Nat) (x1 : Nat) (x3 : Int32) (x4 : Int32) (x5 : Int32) (S : ZS) (H : Heap) (locs : List Loc) (ls : Array Slot), self21 x0 x1 x3 x4 x5 S = some o → zH D y A0 s H locs S → lv_has ls 8 [(0, .ref (zh y x0)), (1, .ref (zh y x1)), (3, .int x3), (4, .int x4), (5, .int x5)] → W p l e ({ frames := 3, cells := 0, slots := 0, locals := 106 } : Room) s m args below meth c H locs 0 0 Q (F0 m 21 ls [])) {x0 : Nat} {x1 : Nat} {x3 : Int32} {x4 : Int32} {x5 : Int32} {x6 : Int32} {t0 : Int32} {S : ZS} {H : Heap} {locs : List Loc} {ls : Array Slot} (hf : f_X7_legalMove_75 self11 self21 x0 x1 x3 x4 x5 x6 t0 S = some o) (hM : zH D y A0 s H locs S) (hl : lv_has ls 8 [(0, .ref (zh y x0)), (1, .ref (zh y x1)), (3, .int x3), (4, .int x4), (5, .int x5), (6, .int x6)]) : W p l e ({ frames := 3, cells := 0, slots := 0, locals := 106 } : Room) s m args below meth c H locs 0 0 Q (F0 m 75 ls [.int t0]) := by
  obtain ⟨hx, hb, hml, hown, hts⟩ := id X
  unfold f_X7_legalMove_75 at hf
  refine lv_istore (lv' := [(7, .int t0), (0, .ref (zh y x0)), (1, .ref (zh y x1)), (3, .int x3), (4, .int x4), (5, .int x5), (6, .int x6)]) hx hb dX7_legalMove_75 hl (by decide) rfl (fun ls hl => ?_)
  refine lv_iload_n hx hb dX7_legalMove_77 rfl (lv_at hl 3 rfl) ?_
  refine lv_iload hx hb dX7_legalMove_78 (lv_at hl 0 rfl) ?_
  refine lv_icmp_ge (tgt := 105) hx hb dX7_legalMove_80 (by decide) (fun cc1 => ?_) (fun cc1 => ?_)
  · replace hf := m_ifT hf cc1
    refine lv_iload_n hx hb dX7_legalMove_105 rfl (lv_at hl 3 rfl) ?_
    refine lv_iload hx hb dX7_legalMove_106 (lv_at hl 0 rfl) ?_
    refine lv_isub hx hb dX7_legalMove_108 ?_
    obtain ⟨v1, ev, hf⟩ := m_bndE hf
    refine m_top ev ?_
    clear ev
    refine lv_istore_n (lv' := [(3, .int v1), (7, .int t0), (0, .ref (zh y x0)), (1, .ref (zh y x1)), (4, .int x4), (5, .int x5), (6, .int x6)]) hx hb dX7_legalMove_109 rfl hl (by decide) rfl (fun ls hl => ?_)
    exact w_X7_legalMove_110 (x0 := x0) (x1 := x1) (x3 := v1) (x4 := x4) (x5 := x5) X hret hself11 hself21 hf hM (lv_sub hl [2, 3, 0, 4, 5] rfl)
  · replace hf := m_ifF hf cc1
    refine lv_iload hx hb dX7_legalMove_83 (lv_at hl 0 rfl) ?_
    refine lv_iconst (v := (1 : Int32)) hx hb dX7_legalMove_85 (by decide) ?_
    refine lv_icmp_ne (tgt := 94) hx hb dX7_legalMove_86 (by decide) (fun cc1 => ?_) (fun cc1 => ?_)
    · replace hf := m_ifF hf cc1
      refine lv_iload hx hb dX7_legalMove_94 (lv_at hl 6 rfl) ?_
      refine lv_sipush (v := (4096 : Int32)) hx hb dX7_legalMove_96 (by decide) ?_
      refine lv_iconst (v := (2 : Int32)) hx hb dX7_legalMove_99 (by decide) ?_
      refine lv_iload_n hx hb dX7_legalMove_100 rfl (lv_at hl 3 rfl) ?_
      refine lv_iadd hx hb dX7_legalMove_101 ?_
      obtain ⟨v2, ev, hf⟩ := m_bndE hf
      refine m_top ev ?_
      clear ev
      refine lv_imul hx hb dX7_legalMove_102 ?_
      obtain ⟨v3, ev, hf⟩ := m_bndE hf
      refine m_top ev ?_
      clear ev
      refine lv_iadd hx hb dX7_legalMove_103 ?_
      obtain ⟨v4, ev, hf⟩ := m_bndE hf
      refine m_top ev ?_
      clear ev
      exact w_X7_legalMove_104 (t0 := v4) X hret hf hM (lv_sub hl [] rfl)
    · replace hf := m_ifT hf cc1
      refine lv_iload hx hb dX7_legalMove_89 (lv_at hl 6 rfl) ?_
      refine lv_goto (tgt := 104) hx hb dX7_legalMove_91 (by decide) ?_
      exact w_X7_legalMove_104 (t0 := x6) X hret hf hM (lv_sub hl [] rfl)
noncomputable def f_X7_legalMove_21s (self11 : Nat → Nat → Int32 → Int32 → ZS → Option (Int32 × ZS)) (self21 : Nat → Nat → Int32 → Int32 → Int32 → ZS → Option (Int32 × ZS)) (x0 : Nat) (x1 : Nat) (x3 : Int32) (x4 : Int32) (x5 : Int32) (S : ZS) : Option (Int32 × ZS) :=
  m_if ((64 : Int32) ≤ x5) (
  m_bnd (x4 + (1 : Int32)) (fun v1 =>
  self11 x0 x1 x3 v1 S)
  ) (
  m_bnd ((64 : Int32) * x5) (fun v2 =>
  m_bnd (x4 + v2) (fun v3 =>
  m_chk (zK S x1 = 0) (
  m_cal (f_X0_reaches x1 x4 x5 S) (fun o4 =>
  m_if (o4.1 = 0) (
  f_X7_legalMove_110 self11 self21 x0 x1 x3 x4 x5 o4.2
  ) (
  m_chk (zK o4.2 x0 = 7) (
  m_cal (f_X7_isSafe x0 x1 v3 o4.2) (fun o5 =>
  m_if (o5.1 = 0) (
  f_X7_legalMove_110 self11 self21 x0 x1 x3 x4 x5 o5.2
  ) (
  m_chk (zK o5.2 x1 = 0) (
  m_cal (f_X0_becomesAnother x1 x4 x5 o5.2) (fun o6 =>
  m_if (o6.1 = 0) (
  f_X7_legalMove_75 self11 self21 x0 x1 x3 x4 x5 v3 (1 : Int32) o6.2
  ) (
  f_X7_legalMove_75 self11 self21 x0 x1 x3 x4 x5 v3 (4 : Int32) o6.2
  )))
  )))
  )))))
  )

set_option maxRecDepth 100000 in
set_option maxHeartbeats 4000000 in
theorem ws_X7_legalMove_21 {p : Program} {l : Launch} {e : Env} {s : State} {m : MethodId} {args : Array Value} {below : List Frame} {meth : Method} {c : Code} {Q : State → Prop} {D : va_G} {y : Nat → ClassId} {A0 : Nat → Prop} {o : Int32 × ZS} (X : CallFix p m c cX7_legalMove 8 s args wsX7_legalMove RX7) (hret : zRi p l e ({ frames := 3, cells := 0, slots := 0, locals := 106 } : Room) s m args below meth c Q cX7_legalMove D y A0 .int o) {self11 : Nat → Nat → Int32 → Int32 → ZS → Option (Int32 × ZS)} (hself11 : ∀ (x0 : Nat) (x1 : Nat) (x3 : Int32) (x4 : Int32) (S : ZS) (H : Heap) (locs : List Loc) (ls : Array Slot), self11 x0 x1 x3 x4 S = some o → zH D y A0 s H locs S → lv_has ls 8 [(0, .ref (zh y x0)), (1, .ref (zh y x1)), (3, .int x3), (4, .int x4)] → W p l e ({ frames := 3, cells := 0, slots := 0, locals := 106 } : Room) s m args below meth c H locs 0 0 Q (F0 m 11 ls [])) {self21 : Nat → Nat → Int32 → Int32 → Int32 → ZS → Option (Int32 × ZS)} (hself21 : ∀ (x0 : Nat) (x1 : Nat) (x3 : Int32) (x4 : Int32) (x5 : Int32) (S : ZS) (H : Heap) (locs : List Loc) (ls : Array Slot), self21 x0 x1 x3 x4 x5 S = some o → zH D y A0 s H locs S → lv_has ls 8 [(0, .ref (zh y x0)), (1, .ref (zh y x1)), (3, .int x3), (4, .int x4), (5, .int x5)] → W p l e ({ frames := 3, cells := 0, slots := 0, locals := 106 } : Room) s m args below meth c H locs 0 0 Q (F0 m 21 ls [])) {x0 : Nat} {x1 : Nat} {x3 : Int32} {x4 : Int32} {x5 : Int32} {S : ZS} {H : Heap} {locs : List Loc} {ls : Array Slot} (hf : f_X7_legalMove_21s self11 self21 x0 x1 x3 x4 x5 S = some o) (hM : zH D y A0 s H locs S) (hl : lv_has ls 8 [(0, .ref (zh y x0)), (1, .ref (zh y x1)), (3, .int x3), (4, .int x4), (5, .int x5)]) : W p l e ({ frames := 3, cells := 0, slots := 0, locals := 106 } : Room) s m args below meth c H locs 0 0 Q (F0 m 21 ls []) := by
  obtain ⟨hx, hb, hml, hown, hts⟩ := id X
  unfold f_X7_legalMove_21s at hf
  refine lv_iload hx hb dX7_legalMove_21 (lv_at hl 4 rfl) ?_
  refine lv_bipush (v := (64 : Int32)) hx hb dX7_legalMove_23 (by decide) ?_
  refine lv_icmp_ge (tgt := 116) hx hb dX7_legalMove_25 (by decide) (fun cc1 => ?_) (fun cc1 => ?_)
  · replace hf := m_ifT hf cc1
    obtain ⟨v1, ev, hf⟩ := m_bndE hf
    refine lv_iinc (v := v1) (lv' := [(4, .int v1), (0, .ref (zh y x0)), (1, .ref (zh y x1)), (3, .int x3), (5, .int x5)]) hx hb dX7_legalMove_116 hl (k := 3) rfl (by rw [ev]; rfl) (by decide) rfl (fun ls hl => ?_)
    clear ev
    refine lv_goto (tgt := 11) hx hb dX7_legalMove_119 (by decide) ?_
    exact hself11 x0 x1 x3 v1 _ _ _ _ hf hM (lv_sub hl [1, 2, 3, 0] rfl)
  · replace hf := m_ifF hf cc1
    refine lv_iload hx hb dX7_legalMove_28 (lv_at hl 3 rfl) ?_
    refine lv_bipush (v := (64 : Int32)) hx hb dX7_legalMove_30 (by decide) ?_
    refine lv_iload hx hb dX7_legalMove_32 (lv_at hl 4 rfl) ?_
    refine lv_imul hx hb dX7_legalMove_34 ?_
    obtain ⟨v2, ev, hf⟩ := m_bndE hf
    refine m_top ev ?_
    clear ev
    refine lv_iadd hx hb dX7_legalMove_35 ?_
    obtain ⟨v3, ev, hf⟩ := m_bndE hf
    refine m_top ev ?_
    clear ev
    refine lv_istore (lv' := [(6, .int v3), (0, .ref (zh y x0)), (1, .ref (zh y x1)), (3, .int x3), (4, .int x4), (5, .int x5)]) hx hb dX7_legalMove_36 hl (by decide) rfl (fun ls hl => ?_)
    refine lv_aload_n hx hb dX7_legalMove_38 rfl (lv_at hl 2 rfl) ?_
    refine lv_iload hx hb dX7_legalMove_39 (lv_at hl 4 rfl) ?_
    refine lv_iload hx hb dX7_legalMove_41 (lv_at hl 5 rfl) ?_
    obtain ⟨ca, hf⟩ := m_chkE hf
    replace ca := z_in hM (by decide) ca
    obtain ⟨o4, ho, hf⟩ := m_calE hf
    refine z_callVi (k := 0) (C := RX0) (T := TX0) (N := 7) (fl := zf_0) X hM rfl zc_0 ca (c_X0_reaches ho) gX7_legalMove_X0_reaches rfl ⟨rfl, rfl⟩ hd_X0_reaches ⟨Nat.le_of_ble_eq_true rfl, Nat.le_of_ble_eq_true rfl⟩ rfl hl.1 rfl (Nat.le_of_ble_eq_true rfl) dX7_legalMove_43 (fun H locs hM => ?_)
    clear ho
    refine lv_if_eq (tgt := 110) hx hb dX7_legalMove_46 (by decide) (fun cc1 => ?_) (fun cc1 => ?_)
    · replace hf := m_ifT hf cc1
      exact w_X7_legalMove_110 (x0 := x0) (x1 := x1) (x3 := x3) (x4 := x4) (x5 := x5) X hret hself11 hself21 hf hM (lv_sub hl [1, 2, 3, 4, 5] rfl)
    · replace hf := m_ifF hf cc1
      refine lv_aload_n hx hb dX7_legalMove_49 rfl (lv_at hl 1 rfl) ?_
      refine lv_aload_n hx hb dX7_legalMove_50 rfl (lv_at hl 2 rfl) ?_
      refine lv_iload hx hb dX7_legalMove_51 (lv_at hl 0 rfl) ?_
      obtain ⟨ca, hf⟩ := m_chkE hf
      replace ca := z_in hM (by decide) ca
      obtain ⟨o5, ho, hf⟩ := m_calE hf
      refine z_callVi (k := 7) (C := RX7) (T := TX7) (N := 2) (fl := zf_7) X hM rfl zc_7 ca (c_X7_isSafe ho) gX7_legalMove_X7_isSafe rfl ⟨rfl, rfl⟩ hd_X7_isSafe ⟨Nat.le_of_ble_eq_true rfl, Nat.le_of_ble_eq_true rfl⟩ rfl hl.1 rfl (Nat.le_of_ble_eq_true rfl) dX7_legalMove_53 (fun H locs hM => ?_)
      clear ho
      refine lv_if_eq (tgt := 110) hx hb dX7_legalMove_56 (by decide) (fun cc1 => ?_) (fun cc1 => ?_)
      · replace hf := m_ifT hf cc1
        exact w_X7_legalMove_110 (x0 := x0) (x1 := x1) (x3 := x3) (x4 := x4) (x5 := x5) X hret hself11 hself21 hf hM (lv_sub hl [1, 2, 3, 4, 5] rfl)
      · replace hf := m_ifF hf cc1
        refine lv_aload_n hx hb dX7_legalMove_59 rfl (lv_at hl 2 rfl) ?_
        refine lv_iload hx hb dX7_legalMove_60 (lv_at hl 4 rfl) ?_
        refine lv_iload hx hb dX7_legalMove_62 (lv_at hl 5 rfl) ?_
        obtain ⟨ca, hf⟩ := m_chkE hf
        replace ca := z_in hM (by decide) ca
        obtain ⟨o6, ho, hf⟩ := m_calE hf
        refine z_callVi (k := 0) (C := RX0) (T := TX0) (N := 7) (fl := zf_0) X hM rfl zc_0 ca (c_X0_becomesAnother ho) gX7_legalMove_X0_becomesAnother rfl ⟨rfl, rfl⟩ hd_X0_becomesAnother ⟨Nat.le_of_ble_eq_true rfl, Nat.le_of_ble_eq_true rfl⟩ rfl hl.1 rfl (Nat.le_of_ble_eq_true rfl) dX7_legalMove_64 (fun H locs hM => ?_)
        clear ho
        refine lv_if_eq (tgt := 74) hx hb dX7_legalMove_67 (by decide) (fun cc1 => ?_) (fun cc1 => ?_)
        · replace hf := m_ifT hf cc1
          refine lv_iconst (v := (1 : Int32)) hx hb dX7_legalMove_74 (by decide) ?_
          exact w_X7_legalMove_75 (x0 := x0) (x1 := x1) (x3 := x3) (x4 := x4) (x5 := x5) (x6 := v3) (t0 := (1 : Int32)) X hret hself11 hself21 hf hM (lv_sub hl [1, 2, 3, 4, 5, 0] rfl)
        · replace hf := m_ifF hf cc1
          refine lv_iconst (v := (4 : Int32)) hx hb dX7_legalMove_70 (by decide) ?_
          refine lv_goto (tgt := 75) hx hb dX7_legalMove_71 (by decide) ?_
          exact w_X7_legalMove_75 (x0 := x0) (x1 := x1) (x3 := x3) (x4 := x4) (x5 := x5) (x6 := v3) (t0 := (4 : Int32)) X hret hself11 hself21 hf hM (lv_sub hl [1, 2, 3, 4, 5, 0] rfl)
noncomputable def f_X7_legalMove_21 (self11 : Nat → Nat → Int32 → Int32 → ZS → Option (Int32 × ZS)) : Nat → Nat → Nat → Int32 → Int32 → Int32 → ZS → Option (Int32 × ZS)
  | 0 => fun _ _ _ _ _ _ => none
  | n + 1 => f_X7_legalMove_21s self11 (f_X7_legalMove_21 self11 n)
theorem w_X7_legalMove_21 {p : Program} {l : Launch} {e : Env} {s : State} {m : MethodId} {args : Array Value} {below : List Frame} {meth : Method} {c : Code} {Q : State → Prop} {D : va_G} {y : Nat → ClassId} {A0 : Nat → Prop} {o : Int32 × ZS} (X : CallFix p m c cX7_legalMove 8 s args wsX7_legalMove RX7) (hret : zRi p l e ({ frames := 3, cells := 0, slots := 0, locals := 106 } : Room) s m args below meth c Q cX7_legalMove D y A0 .int o) {self11 : Nat → Nat → Int32 → Int32 → ZS → Option (Int32 × ZS)} (hself11 : ∀ (x0 : Nat) (x1 : Nat) (x3 : Int32) (x4 : Int32) (S : ZS) (H : Heap) (locs : List Loc) (ls : Array Slot), self11 x0 x1 x3 x4 S = some o → zH D y A0 s H locs S → lv_has ls 8 [(0, .ref (zh y x0)), (1, .ref (zh y x1)), (3, .int x3), (4, .int x4)] → W p l e ({ frames := 3, cells := 0, slots := 0, locals := 106 } : Room) s m args below meth c H locs 0 0 Q (F0 m 11 ls [])) (n : Nat) : ∀ (x0 : Nat) (x1 : Nat) (x3 : Int32) (x4 : Int32) (x5 : Int32) (S : ZS) (H : Heap) (locs : List Loc) (ls : Array Slot), f_X7_legalMove_21 self11 n x0 x1 x3 x4 x5 S = some o → zH D y A0 s H locs S → lv_has ls 8 [(0, .ref (zh y x0)), (1, .ref (zh y x1)), (3, .int x3), (4, .int x4), (5, .int x5)] → W p l e ({ frames := 3, cells := 0, slots := 0, locals := 106 } : Room) s m args below meth c H locs 0 0 Q (F0 m 21 ls []) := by
  induction n with
  | zero => intro x0 x1 x3 x4 x5 S H locs ls hf; cases hf
  | succ n ih => intro x0 x1 x3 x4 x5 S H locs ls hf hM hl; exact ws_X7_legalMove_21 X hret hself11 (self21 := f_X7_legalMove_21 self11 n) ih hf hM hl
noncomputable def f_X7_legalMove_11s (self11 : Nat → Nat → Int32 → Int32 → ZS → Option (Int32 × ZS)) (x0 : Nat) (x1 : Nat) (x3 : Int32) (x4 : Int32) (S : ZS) : Option (Int32 × ZS) :=
  m_if ((64 : Int32) ≤ x4) (
  some ((-1 : Int32), S)
  ) (
  f_X7_legalMove_21 self11 mFuel x0 x1 x3 x4 (0 : Int32) S
  )

set_option maxRecDepth 100000 in
set_option maxHeartbeats 4000000 in
theorem ws_X7_legalMove_11 {p : Program} {l : Launch} {e : Env} {s : State} {m : MethodId} {args : Array Value} {below : List Frame} {meth : Method} {c : Code} {Q : State → Prop} {D : va_G} {y : Nat → ClassId} {A0 : Nat → Prop} {o : Int32 × ZS} (X : CallFix p m c cX7_legalMove 8 s args wsX7_legalMove RX7) (hret : zRi p l e ({ frames := 3, cells := 0, slots := 0, locals := 106 } : Room) s m args below meth c Q cX7_legalMove D y A0 .int o) {self11 : Nat → Nat → Int32 → Int32 → ZS → Option (Int32 × ZS)} (hself11 : ∀ (x0 : Nat) (x1 : Nat) (x3 : Int32) (x4 : Int32) (S : ZS) (H : Heap) (locs : List Loc) (ls : Array Slot), self11 x0 x1 x3 x4 S = some o → zH D y A0 s H locs S → lv_has ls 8 [(0, .ref (zh y x0)), (1, .ref (zh y x1)), (3, .int x3), (4, .int x4)] → W p l e ({ frames := 3, cells := 0, slots := 0, locals := 106 } : Room) s m args below meth c H locs 0 0 Q (F0 m 11 ls [])) {x0 : Nat} {x1 : Nat} {x3 : Int32} {x4 : Int32} {S : ZS} {H : Heap} {locs : List Loc} {ls : Array Slot} (hf : f_X7_legalMove_11s self11 x0 x1 x3 x4 S = some o) (hM : zH D y A0 s H locs S) (hl : lv_has ls 8 [(0, .ref (zh y x0)), (1, .ref (zh y x1)), (3, .int x3), (4, .int x4)]) : W p l e ({ frames := 3, cells := 0, slots := 0, locals := 106 } : Room) s m args below meth c H locs 0 0 Q (F0 m 11 ls []) := by
  obtain ⟨hx, hb, hml, hown, hts⟩ := id X
  unfold f_X7_legalMove_11s at hf
  refine lv_iload hx hb dX7_legalMove_11 (lv_at hl 3 rfl) ?_
  refine lv_bipush (v := (64 : Int32)) hx hb dX7_legalMove_13 (by decide) ?_
  refine lv_icmp_ge (tgt := 122) hx hb dX7_legalMove_15 (by decide) (fun cc1 => ?_) (fun cc1 => ?_)
  · replace hf := m_ifT hf cc1
    refine lv_iconst (v := (-1 : Int32)) hx hb dX7_legalMove_122 (by decide) ?_
    cases hf
    exact hret H locs _ ls hM rfl dX7_legalMove_123
  · replace hf := m_ifF hf cc1
    refine lv_iconst (v := (0 : Int32)) hx hb dX7_legalMove_18 (by decide) ?_
    refine lv_istore (lv' := [(5, .int (0 : Int32)), (0, .ref (zh y x0)), (1, .ref (zh y x1)), (3, .int x3), (4, .int x4)]) hx hb dX7_legalMove_19 hl (by decide) rfl (fun ls hl => ?_)
    exact w_X7_legalMove_21 X hret hself11 _ x0 x1 x3 x4 (0 : Int32) _ _ _ _ hf hM (lv_sub hl [1, 2, 3, 4, 0] rfl)
noncomputable def f_X7_legalMove_11 : Nat → Nat → Nat → Int32 → Int32 → ZS → Option (Int32 × ZS)
  | 0 => fun _ _ _ _ _ => none
  | n + 1 => f_X7_legalMove_11s (f_X7_legalMove_11 n)
theorem w_X7_legalMove_11 {p : Program} {l : Launch} {e : Env} {s : State} {m : MethodId} {args : Array Value} {below : List Frame} {meth : Method} {c : Code} {Q : State → Prop} {D : va_G} {y : Nat → ClassId} {A0 : Nat → Prop} {o : Int32 × ZS} (X : CallFix p m c cX7_legalMove 8 s args wsX7_legalMove RX7) (hret : zRi p l e ({ frames := 3, cells := 0, slots := 0, locals := 106 } : Room) s m args below meth c Q cX7_legalMove D y A0 .int o) (n : Nat) : ∀ (x0 : Nat) (x1 : Nat) (x3 : Int32) (x4 : Int32) (S : ZS) (H : Heap) (locs : List Loc) (ls : Array Slot), f_X7_legalMove_11 n x0 x1 x3 x4 S = some o → zH D y A0 s H locs S → lv_has ls 8 [(0, .ref (zh y x0)), (1, .ref (zh y x1)), (3, .int x3), (4, .int x4)] → W p l e ({ frames := 3, cells := 0, slots := 0, locals := 106 } : Room) s m args below meth c H locs 0 0 Q (F0 m 11 ls []) := by
  induction n with
  | zero => intro x0 x1 x3 x4 S H locs ls hf; cases hf
  | succ n ih => intro x0 x1 x3 x4 S H locs ls hf hM hl; exact ws_X7_legalMove_11 X hret (self11 := f_X7_legalMove_11 n) ih hf hM hl
noncomputable def f_X7_legalMove_0 (x0 : Nat) (x1 : Nat) (x2 : Int32) (S : ZS) : Option (Int32 × ZS) :=
  m_if (0 ≤ x2) (
  f_X7_legalMove_11 mFuel x0 x1 x2 (0 : Int32) S
  ) (
  some ((-1 : Int32), S)
  )

set_option maxRecDepth 100000 in
set_option maxHeartbeats 4000000 in
theorem w_X7_legalMove_0 {p : Program} {l : Launch} {e : Env} {s : State} {m : MethodId} {args : Array Value} {below : List Frame} {meth : Method} {c : Code} {Q : State → Prop} {D : va_G} {y : Nat → ClassId} {A0 : Nat → Prop} {o : Int32 × ZS} (X : CallFix p m c cX7_legalMove 8 s args wsX7_legalMove RX7) (hret : zRi p l e ({ frames := 3, cells := 0, slots := 0, locals := 106 } : Room) s m args below meth c Q cX7_legalMove D y A0 .int o) {x0 : Nat} {x1 : Nat} {x2 : Int32} {S : ZS} {H : Heap} {locs : List Loc} {ls : Array Slot} (hf : f_X7_legalMove_0 x0 x1 x2 S = some o) (hM : zH D y A0 s H locs S) (hl : lv_has ls 8 [(0, .ref (zh y x0)), (1, .ref (zh y x1)), (2, .int x2)]) : W p l e ({ frames := 3, cells := 0, slots := 0, locals := 106 } : Room) s m args below meth c H locs 0 0 Q (F0 m 0 ls []) := by
  obtain ⟨hx, hb, hml, hown, hts⟩ := id X
  unfold f_X7_legalMove_0 at hf
  refine lv_iload_n hx hb dX7_legalMove_0 rfl (lv_at hl 2 rfl) ?_
  refine lv_if_ge (tgt := 6) hx hb dX7_legalMove_1 (by decide) (fun cc1 => ?_) (fun cc1 => ?_)
  · replace hf := m_ifT hf cc1
    refine lv_iload_n hx hb dX7_legalMove_6 rfl (lv_at hl 2 rfl) ?_
    refine lv_istore_n (lv' := [(3, .int x2), (0, .ref (zh y x0)), (1, .ref (zh y x1)), (2, .int x2)]) hx hb dX7_legalMove_7 rfl hl (by decide) rfl (fun ls hl => ?_)
    refine lv_iconst (v := (0 : Int32)) hx hb dX7_legalMove_8 (by decide) ?_
    refine lv_istore (lv' := [(4, .int (0 : Int32)), (3, .int x2), (0, .ref (zh y x0)), (1, .ref (zh y x1)), (2, .int x2)]) hx hb dX7_legalMove_9 hl (by decide) rfl (fun ls hl => ?_)
    exact w_X7_legalMove_11 X hret _ x0 x1 x2 (0 : Int32) _ _ _ _ hf hM (lv_sub hl [2, 3, 1, 0] rfl)
  · replace hf := m_ifF hf cc1
    refine lv_iconst (v := (-1 : Int32)) hx hb dX7_legalMove_4 (by decide) ?_
    cases hf
    exact hret H locs _ ls hM rfl dX7_legalMove_5
noncomputable def f_X7_legalMove (x0 : Nat) (x1 : Nat) (x2 : Int32) (S : ZS) : Option (Int32 × ZS) := f_X7_legalMove_0 x0 x1 x2 S
theorem c_X7_legalMove {l : Launch} {D : va_G} {y : Nat → ClassId} {x0 : Nat} {x1 : Nat} {x2 : Int32} {S : ZS} {o : Int32 × ZS} (hf : f_X7_legalMove x0 x1 x2 S = some o) : zMi l yX7_legalMove wsX7_legalMove ({ frames := 3, cells := 0, slots := 0, locals := 106 } : Room) [.ref (zh y x0), .ref (zh y x1), .int x2] D y S o :=
  z_entryI (own := RX7) (cc := cX7_legalMove) (maxL := 8) (by decide) rfl rfl (Nat.le_of_ble_eq_true rfl) (fun p e s m args below meth c A0 Q H locs ls X hret hM hl => w_X7_legalMove_0 X hret hf hM (lv_sub hl [0, 1, 2] rfl))
theorem hd_X11_init : yX11_init.cls = RX11 ∧ yX11_init.cls ≠ "java/lang/invoke/MethodHandle" ∧ yX11_init.cls ≠ "java/lang/invoke/VarHandle" ∧ (parseMethodDescriptor yX11_init.desc).map (fun d => d.parameters.length) = some 0 := by decide +kernel
theorem fl_X11_init_11_0 : Cond.fieldLink RX11 10 "MoveTexts" "text" "LMoveTexts$Row;" ∈ wsX11_init := by decide +kernel
theorem fl_X11_init_11_1 : Cond.fieldLink RX11 16 "MoveTexts" "out" "LMoveTexts$Row;" ∈ wsX11_init := by decide +kernel
theorem fl_X11_init_11_2 : Cond.fieldLink RX11 22 "MoveTexts" "rules" "LMoveTexts$Rules;" ∈ wsX11_init := by decide +kernel
theorem fl_X11_init_11_3 : Cond.fieldLink RX11 29 "MoveTexts" "signReader" "LMoveTexts$SignReader;" ∈ wsX11_init := by decide +kernel
theorem fl_X11_init_11_4 : Cond.fieldLink RX11 36 "MoveTexts" "signWriter" "LMoveTexts$SignWriter;" ∈ wsX11_init := by decide +kernel
theorem fl_X11_init_11_5 : Cond.fieldLink RX11 43 "MoveTexts" "gameReader" "LMoveTexts$GameReader;" ∈ wsX11_init := by decide +kernel
theorem fl_X11_init_11_6 : Cond.fieldLink RX11 50 "MoveTexts" "gameWriter" "LMoveTexts$GameWriter;" ∈ wsX11_init := by decide +kernel
theorem fl_X11_init_11_7 : Cond.fieldLink RX11 57 "MoveTexts" "game" "LMoveTexts$Game;" ∈ wsX11_init := by decide +kernel
theorem fl_X11_init_11_8 : Cond.fieldLink RX11 61 "MoveTexts" "here" "I" ∈ wsX11_init := by decide +kernel
theorem fl_X11_init_11_9 : Cond.fieldLink RX11 68 "MoveTexts" "board" "LMoveTexts$Board;" ∈ wsX11_init := by decide +kernel
theorem hw_X11_init_0 : ∀ w ∈ wsX00, w ∈ wsX11_init := by decide +kernel
theorem hw_X11_init_1 : ∀ w ∈ wsX10, w ∈ wsX11_init := by decide +kernel
theorem hw_X11_init_11 : ∀ w ∈ wsX110, w ∈ wsX11_init := by decide +kernel
theorem hw_X11_init_2 : ∀ w ∈ wsX20, w ∈ wsX11_init := by decide +kernel
theorem hw_X11_init_3 : ∀ w ∈ wsX30, w ∈ wsX11_init := by decide +kernel
theorem hw_X11_init_6 : ∀ w ∈ wsX60, w ∈ wsX11_init := by decide +kernel
theorem hw_X11_init_7 : ∀ w ∈ wsX70, w ∈ wsX11_init := by decide +kernel
theorem hw_X11_init_8 : ∀ w ∈ wsX80, w ∈ wsX11_init := by decide +kernel
theorem hw_X11_init_9 : ∀ w ∈ wsX90, w ∈ wsX11_init := by decide +kernel
theorem ii_X11_init_21 : (RX11, 21, yX7_init, "MoveTexts") ∈ zNW ∧ Cond.initialized yX7_init.cls ∈ wsX11_init ∧ Cond.instanceMethod yX7_init ∈ wsX11_init := by decide +kernel
theorem ii_X11_init_28 : (RX11, 28, yX8_init, "MoveTexts") ∈ zNW ∧ Cond.initialized yX8_init.cls ∈ wsX11_init ∧ Cond.instanceMethod yX8_init ∈ wsX11_init := by decide +kernel
theorem ii_X11_init_35 : (RX11, 35, yX9_init, "MoveTexts") ∈ zNW ∧ Cond.initialized yX9_init.cls ∈ wsX11_init ∧ Cond.instanceMethod yX9_init ∈ wsX11_init := by decide +kernel
theorem ii_X11_init_42 : Cond.methodLink RX11 42 yX2_init ∈ wsX11_init ∧ Cond.initialized yX2_init.cls ∈ wsX11_init ∧ Cond.instanceMethod yX2_init ∈ wsX11_init := by decide +kernel
theorem ii_X11_init_49 : Cond.methodLink RX11 49 yX3_init ∈ wsX11_init ∧ Cond.initialized yX3_init.cls ∈ wsX11_init ∧ Cond.instanceMethod yX3_init ∈ wsX11_init := by decide +kernel
theorem ii_X11_init_56 : Cond.methodLink RX11 56 yX1_init ∈ wsX11_init ∧ Cond.initialized yX1_init.cls ∈ wsX11_init ∧ Cond.instanceMethod yX1_init ∈ wsX11_init := by decide +kernel
theorem ii_X11_init_67 : (RX11, 67, yX0_init, "MoveTexts") ∈ zNW ∧ Cond.initialized yX0_init.cls ∈ wsX11_init ∧ Cond.instanceMethod yX0_init ∈ wsX11_init := by decide +kernel
theorem ii_X11_init_9 : (RX11, 9, yX6_init, "MoveTexts") ∈ zNW ∧ Cond.initialized yX6_init.cls ∈ wsX11_init ∧ Cond.instanceMethod yX6_init ∈ wsX11_init := by decide +kernel
theorem nw_X11_init_19 : Cond.classLink RX11 19 RX7 ∈ wsX11_init ∧ Cond.instantiable RX7 2 ∈ wsX11_init ∧ Cond.initialized RX7 ∈ wsX11_init := by decide +kernel
theorem nw_X11_init_26 : Cond.classLink RX11 26 RX8 ∈ wsX11_init ∧ Cond.instantiable RX8 12 ∈ wsX11_init ∧ Cond.initialized RX8 ∈ wsX11_init := by decide +kernel
theorem nw_X11_init_33 : Cond.classLink RX11 33 RX9 ∈ wsX11_init ∧ Cond.instantiable RX9 1 ∈ wsX11_init ∧ Cond.initialized RX9 ∈ wsX11_init := by decide +kernel
theorem nw_X11_init_40 : Cond.classLink RX11 40 RX2 ∈ wsX11_init ∧ Cond.instantiable RX2 12 ∈ wsX11_init ∧ Cond.initialized RX2 ∈ wsX11_init := by decide +kernel
theorem nw_X11_init_47 : Cond.classLink RX11 47 RX3 ∈ wsX11_init ∧ Cond.instantiable RX3 2 ∈ wsX11_init ∧ Cond.initialized RX3 ∈ wsX11_init := by decide +kernel
theorem nw_X11_init_54 : Cond.classLink RX11 54 RX1 ∈ wsX11_init ∧ Cond.instantiable RX1 8 ∈ wsX11_init ∧ Cond.initialized RX1 ∈ wsX11_init := by decide +kernel
theorem nw_X11_init_65 : Cond.classLink RX11 65 RX0 ∈ wsX11_init ∧ Cond.instantiable RX0 7 ∈ wsX11_init ∧ Cond.initialized RX0 ∈ wsX11_init := by decide +kernel
theorem nw_X11_init_7 : Cond.classLink RX11 7 RX6 ∈ wsX11_init ∧ Cond.instantiable RX6 2 ∈ wsX11_init ∧ Cond.initialized RX6 ∈ wsX11_init := by decide +kernel
theorem ob_X11_init : (Cond.methodLink RX11 1 objectInit ∈ wsX11_init ∧ Cond.instanceMethod objectInit ∈ wsX11_init) ∧ Cond.code objectInit ⟨#[0xb1]⟩ 1 none ∈ wsX11_init := by decide +kernel
noncomputable def g_X11_init_0 (Pw : Int32 → ZS → Prop) (x0 : Nat) (S : ZS) (C T : Nat) : Prop :=
  m_newP (C) (T) 2 (zt S) (fun q1 C3 T4 =>
  m_bndP (zsNewO S q1 6 2) (fun S2 =>
  m_calP (f_X6_init q1 S2) (fun o5 =>
  m_chkQ (zK o5.2 x0 = 11) (
  m_bndP (zsP o5.2 0 x0 (some q1)) (fun S6 =>
  m_newP (C3) (T4) 2 (zt S6) (fun q7 C9 T10 =>
  m_bndP (zsNewO S6 q7 6 2) (fun S8 =>
  m_calP (f_X6_init q7 S8) (fun o11 =>
  m_chkQ (zK o11.2 x0 = 11) (
  m_bndP (zsP o11.2 1 x0 (some q7)) (fun S12 =>
  m_newP (C9) (T10) 2 (zt S12) (fun q13 C15 T16 =>
  m_bndP (zsNewO S12 q13 7 2) (fun S14 =>
  m_gal (C15) (T16) (fun mc ms Pw => g_X7_init q13 S14 mc ms Pw) (fun r18 S19 C20 T21 =>
  m_chkQ (zK S19 x0 = 11) (
  m_bndP (zsP S19 2 x0 (some q13)) (fun S22 =>
  m_newP (C20) (T21) 12 (zt S22) (fun q23 C25 T26 =>
  m_bndP (zsNewO S22 q23 8 12) (fun S24 =>
  m_gal (C25) (T26) (fun mc ms Pw => g_X8_init q23 S24 mc ms Pw) (fun r28 S29 C30 T31 =>
  m_chkQ (zK S29 x0 = 11) (
  m_bndP (zsP S29 3 x0 (some q23)) (fun S32 =>
  m_newP (C30) (T31) 1 (zt S32) (fun q33 C35 T36 =>
  m_bndP (zsNewO S32 q33 9 1) (fun S34 =>
  m_gal (C35) (T36) (fun mc ms Pw => g_X9_init q33 S34 mc ms Pw) (fun r38 S39 C40 T41 =>
  m_chkQ (zK S39 x0 = 11) (
  m_bndP (zsP S39 4 x0 (some q33)) (fun S42 =>
  m_newP (C40) (T41) 12 (zt S42) (fun q43 C45 T46 =>
  m_bndP (zsNewO S42 q43 2 12) (fun S44 =>
  m_gal (C45) (T46) (fun mc ms Pw => g_X2_init q43 S44 mc ms Pw) (fun r48 S49 C50 T51 =>
  m_chkQ (zK S49 x0 = 11) (
  m_bndP (zsP S49 5 x0 (some q43)) (fun S52 =>
  m_newP (C50) (T51) 2 (zt S52) (fun q53 C55 T56 =>
  m_bndP (zsNewO S52 q53 3 2) (fun S54 =>
  m_gal (C55) (T56) (fun mc ms Pw => g_X3_init q53 S54 mc ms Pw) (fun r58 S59 C60 T61 =>
  m_chkQ (zK S59 x0 = 11) (
  m_bndP (zsP S59 6 x0 (some q53)) (fun S62 =>
  m_newP (C60) (T61) 8 (zt S62) (fun q63 C65 T66 =>
  m_bndP (zsNewO S62 q63 1 8) (fun S64 =>
  m_gal (C65) (T66) (fun mc ms Pw => g_X1_init q63 S64 mc ms Pw) (fun r68 S69 C70 T71 =>
  m_chkQ (zK S69 x0 = 11) (
  m_bndP (zsP S69 7 x0 (some q63)) (fun S72 =>
  m_chkQ (zK S72 x0 = 11) (
  m_bndP (zsI S72 8 x0 (0 : Int32)) (fun S73 =>
  m_newP (C70) (T71) 7 (zt S73) (fun q74 C76 T77 =>
  m_bndP (zsNewO S73 q74 0 7) (fun S75 =>
  m_gal (C76) (T77) (fun mc ms Pw => g_X0_init q74 S75 mc ms Pw) (fun r79 S80 C81 T82 =>
  m_chkQ (zK S80 x0 = 11) (
  m_bndP (zsP S80 9 x0 (some q74)) (fun S83 =>
  m_chkQ (zK S83 x0 = 11) (
  m_calP (zP S83 9 x0) (fun b84 =>
  m_chkQ (zK S83 b84 = 0) (
  m_calP (f_X0_setUp b84 S83) (fun o85 =>
  Pw 0 o85.2)))))))))))))))))))))))))))))))))))))))))))))))))))

set_option maxRecDepth 100000 in
set_option maxHeartbeats 4000000 in
theorem w_X11_init_0 {p : Program} {l : Launch} {e : Env} {s : State} {m : MethodId} {args : Array Value} {below : List Frame} {meth : Method} {c : Code} {Q : State → Prop} {D : va_G} {y : Nat → ClassId} {A0 : Nat → Prop} {kc kt : Nat} {Pw : Int32 → ZS → Prop} (X : CallFix p m c cX11_init 1 s args wsX11_init RX11) (hin : meth.name = "<init>") (hret : zQv p l e ({ frames := 5, cells := kc, slots := kt, locals := 105 } : Room) s m args below meth c Q cX11_init D y A0 Pw) {x0 : Nat} {S : ZS} {C T : Nat} {H : Heap} {locs : List Loc} {ls : Array Slot} (hf : g_X11_init_0 Pw x0 S C T) (hCT : C ≤ kc ∧ T ≤ kt) (hM : zH D y A0 s H locs S) (hl : lv_has ls 1 [(0, .ref (zh y x0))]) : W p l e ({ frames := 5, cells := kc, slots := kt, locals := 105 } : Room) s m args below meth c H locs (kc - C) (kt - T) Q (F0 m 0 ls []) := by
  obtain ⟨hx, hb, hml, hown, hts⟩ := id X
  unfold g_X11_init_0 at hf
  refine lv_aload_n hx hb dX11_init_0 rfl (lv_at hl 0 rfl) ?_
  refine z_obj X (by rw [hml]; exact hl.1.symm) ob_X11_init.1 ob_X11_init.2 (Nat.le_of_ble_eq_true rfl) (Nat.le_of_ble_eq_true rfl) dX11_init_1 ?_
  refine lv_aload_n hx hb dX11_init_4 rfl (lv_at hl 0 rfl) ?_
  obtain ⟨hcm, ho⟩ := hf
  refine z_newO (k := 6) (C := RX6) (T := TX6) (N := 2) (fl := zf_6) X hw_X11_init_6 tyX6_ok hM rfl zc_6 nw_X11_init_7 zd_6 ⟨by show kc - (C) + 1 ≤ kc; omega, by show kt - (T) + 2 ≤ kt; omega⟩ dX11_init_5 (fun q1 H hq hM => ?_)
  replace hf := ho q1 hq
  refine z_eqCS (c2 := kc - (C - 1)) (t2 := kt - (T - 2)) (by omega) (by omega) ?_
  replace hCT : C - 1 ≤ kc ∧ T - 2 ≤ kt := by omega
  generalize C - 1 = C3 at hf hCT ⊢
  generalize T - 2 = T4 at hf hCT ⊢
  obtain ⟨S2, ev, hf⟩ := m_bndPE hf
  replace hM := z_hS hM ev
  clear ev ho hcm hq
  refine lv_dup hx hb dX11_init_8 rfl ?_
  obtain ⟨o5, ho, hf⟩ := m_calPE hf
  refine z_gcallINv X hM (c_X6_init ho) gX11_init_X6_init_n9 ii_X11_init_9.1 ii_X11_init_9.2.1 ii_X11_init_9.2.2 rfl rfl ⟨rfl, rfl⟩ hd_X6_init.2 ⟨Nat.le_of_ble_eq_true rfl, Nat.le_of_ble_eq_true rfl⟩ rfl hl.1 rfl ⟨Nat.sub_le _ _, Nat.sub_le _ _⟩ (Nat.le_of_ble_eq_true rfl) dX11_init_9 (fun H locs hM => ?_)
  clear ho
  obtain ⟨ca, hf⟩ := m_chkPE hf
  replace ca := z_in hM (by decide) ca
  refine z_putPF (k := 11) (j := 0) (C := RX11) (T := TX11) (N := 10) (fl := zf_11) (ty := tyX11 0) X hw_X11_init_11 tyX11_ok nmX11 hM rfl zc_11 ca (by decide) fl_X11_init_11_0 rfl hin rfl (tyX11_ok 0 (by decide)) rfl rfl zp_11_0 (Nat.le_of_ble_eq_true rfl) dX11_init_12 (fun H locs hM => ?_)
  clear ca
  obtain ⟨S6, ev, hf⟩ := m_bndPE hf
  replace hM := z_hS hM ev
  clear ev
  refine lv_aload_n hx hb dX11_init_15 rfl (lv_at hl 0 rfl) ?_
  obtain ⟨hcm, ho⟩ := hf
  refine z_newO (k := 6) (C := RX6) (T := TX6) (N := 2) (fl := zf_6) X hw_X11_init_6 tyX6_ok hM rfl zc_6 nw_X11_init_7 zd_6 ⟨by show kc - (C3) + 1 ≤ kc; omega, by show kt - (T4) + 2 ≤ kt; omega⟩ dX11_init_16 (fun q7 H hq hM => ?_)
  replace hf := ho q7 hq
  refine z_eqCS (c2 := kc - (C3 - 1)) (t2 := kt - (T4 - 2)) (by omega) (by omega) ?_
  replace hCT : C3 - 1 ≤ kc ∧ T4 - 2 ≤ kt := by omega
  generalize C3 - 1 = C9 at hf hCT ⊢
  generalize T4 - 2 = T10 at hf hCT ⊢
  obtain ⟨S8, ev, hf⟩ := m_bndPE hf
  replace hM := z_hS hM ev
  clear ev ho hcm hq
  refine lv_dup hx hb dX11_init_19 rfl ?_
  obtain ⟨o11, ho, hf⟩ := m_calPE hf
  refine z_gcallINv X hM (c_X6_init ho) gX11_init_X6_init_n9 ii_X11_init_9.1 ii_X11_init_9.2.1 ii_X11_init_9.2.2 rfl rfl ⟨rfl, rfl⟩ hd_X6_init.2 ⟨Nat.le_of_ble_eq_true rfl, Nat.le_of_ble_eq_true rfl⟩ rfl hl.1 rfl ⟨Nat.sub_le _ _, Nat.sub_le _ _⟩ (Nat.le_of_ble_eq_true rfl) dX11_init_20 (fun H locs hM => ?_)
  clear ho
  obtain ⟨ca, hf⟩ := m_chkPE hf
  replace ca := z_in hM (by decide) ca
  refine z_putPF (k := 11) (j := 1) (C := RX11) (T := TX11) (N := 10) (fl := zf_11) (ty := tyX11 1) X hw_X11_init_11 tyX11_ok nmX11 hM rfl zc_11 ca (by decide) fl_X11_init_11_1 rfl hin rfl (tyX11_ok 1 (by decide)) rfl rfl zp_11_1 (Nat.le_of_ble_eq_true rfl) dX11_init_23 (fun H locs hM => ?_)
  clear ca
  obtain ⟨S12, ev, hf⟩ := m_bndPE hf
  replace hM := z_hS hM ev
  clear ev
  refine lv_aload_n hx hb dX11_init_26 rfl (lv_at hl 0 rfl) ?_
  obtain ⟨hcm, ho⟩ := hf
  refine z_newO (k := 7) (C := RX7) (T := TX7) (N := 2) (fl := zf_7) X hw_X11_init_7 tyX7_ok hM rfl zc_7 nw_X11_init_19 zd_7 ⟨by show kc - (C9) + 1 ≤ kc; omega, by show kt - (T10) + 2 ≤ kt; omega⟩ dX11_init_27 (fun q13 H hq hM => ?_)
  replace hf := ho q13 hq
  refine z_eqCS (c2 := kc - (C9 - 1)) (t2 := kt - (T10 - 2)) (by omega) (by omega) ?_
  replace hCT : C9 - 1 ≤ kc ∧ T10 - 2 ≤ kt := by omega
  generalize C9 - 1 = C15 at hf hCT ⊢
  generalize T10 - 2 = T16 at hf hCT ⊢
  obtain ⟨S14, ev, hf⟩ := m_bndPE hf
  replace hM := z_hS hM ev
  clear ev ho hcm hq
  refine lv_dup hx hb dX11_init_30 rfl ?_
  obtain ⟨mc, ms, hcm, ho⟩ := m_galE hf
  refine z_wcallINv X hM (c_X7_init ho) gX11_init_X7_init_n21 ii_X11_init_21.1 ii_X11_init_21.2.1 ii_X11_init_21.2.2 rfl rfl ⟨rfl, rfl⟩ ⟨by show kc - (C15) + mc ≤ kc; omega, by show kt - (T16) + ms ≤ kt; omega⟩ hd_X7_init.2 ⟨Nat.le_of_ble_eq_true rfl, Nat.le_of_ble_eq_true rfl⟩ rfl hl.1 rfl (Nat.le_of_ble_eq_true rfl) dX11_init_31 (fun S19 H locs hf hM => ?_)
  refine z_eqCS (c2 := kc - (C15 - mc)) (t2 := kt - (T16 - ms)) (by omega) (by omega) ?_
  replace hCT : C15 - mc ≤ kc ∧ T16 - ms ≤ kt := by omega
  generalize C15 - mc = C20 at hf hCT ⊢
  generalize T16 - ms = T21 at hf hCT ⊢
  clear ho hcm
  obtain ⟨ca, hf⟩ := m_chkPE hf
  replace ca := z_in hM (by decide) ca
  refine z_putPF (k := 11) (j := 2) (C := RX11) (T := TX11) (N := 10) (fl := zf_11) (ty := tyX11 2) X hw_X11_init_11 tyX11_ok nmX11 hM rfl zc_11 ca (by decide) fl_X11_init_11_2 rfl hin rfl (tyX11_ok 2 (by decide)) rfl rfl zp_11_2 (Nat.le_of_ble_eq_true rfl) dX11_init_34 (fun H locs hM => ?_)
  clear ca
  obtain ⟨S22, ev, hf⟩ := m_bndPE hf
  replace hM := z_hS hM ev
  clear ev
  refine lv_aload_n hx hb dX11_init_37 rfl (lv_at hl 0 rfl) ?_
  obtain ⟨hcm, ho⟩ := hf
  refine z_newO (k := 8) (C := RX8) (T := TX8) (N := 12) (fl := zf_8) X hw_X11_init_8 tyX8_ok hM rfl zc_8 nw_X11_init_26 zd_8 ⟨by show kc - (C20) + 1 ≤ kc; omega, by show kt - (T21) + 12 ≤ kt; omega⟩ dX11_init_38 (fun q23 H hq hM => ?_)
  replace hf := ho q23 hq
  refine z_eqCS (c2 := kc - (C20 - 1)) (t2 := kt - (T21 - 12)) (by omega) (by omega) ?_
  replace hCT : C20 - 1 ≤ kc ∧ T21 - 12 ≤ kt := by omega
  generalize C20 - 1 = C25 at hf hCT ⊢
  generalize T21 - 12 = T26 at hf hCT ⊢
  obtain ⟨S24, ev, hf⟩ := m_bndPE hf
  replace hM := z_hS hM ev
  clear ev ho hcm hq
  refine lv_dup hx hb dX11_init_41 rfl ?_
  obtain ⟨mc, ms, hcm, ho⟩ := m_galE hf
  refine z_wcallINv X hM (c_X8_init ho) gX11_init_X8_init_n28 ii_X11_init_28.1 ii_X11_init_28.2.1 ii_X11_init_28.2.2 rfl rfl ⟨rfl, rfl⟩ ⟨by show kc - (C25) + mc ≤ kc; omega, by show kt - (T26) + ms ≤ kt; omega⟩ hd_X8_init.2 ⟨Nat.le_of_ble_eq_true rfl, Nat.le_of_ble_eq_true rfl⟩ rfl hl.1 rfl (Nat.le_of_ble_eq_true rfl) dX11_init_42 (fun S29 H locs hf hM => ?_)
  refine z_eqCS (c2 := kc - (C25 - mc)) (t2 := kt - (T26 - ms)) (by omega) (by omega) ?_
  replace hCT : C25 - mc ≤ kc ∧ T26 - ms ≤ kt := by omega
  generalize C25 - mc = C30 at hf hCT ⊢
  generalize T26 - ms = T31 at hf hCT ⊢
  clear ho hcm
  obtain ⟨ca, hf⟩ := m_chkPE hf
  replace ca := z_in hM (by decide) ca
  refine z_putPF (k := 11) (j := 3) (C := RX11) (T := TX11) (N := 10) (fl := zf_11) (ty := tyX11 3) X hw_X11_init_11 tyX11_ok nmX11 hM rfl zc_11 ca (by decide) fl_X11_init_11_3 rfl hin rfl (tyX11_ok 3 (by decide)) rfl rfl zp_11_3 (Nat.le_of_ble_eq_true rfl) dX11_init_45 (fun H locs hM => ?_)
  clear ca
  obtain ⟨S32, ev, hf⟩ := m_bndPE hf
  replace hM := z_hS hM ev
  clear ev
  refine lv_aload_n hx hb dX11_init_48 rfl (lv_at hl 0 rfl) ?_
  obtain ⟨hcm, ho⟩ := hf
  refine z_newO (k := 9) (C := RX9) (T := TX9) (N := 1) (fl := zf_9) X hw_X11_init_9 tyX9_ok hM rfl zc_9 nw_X11_init_33 zd_9 ⟨by show kc - (C30) + 1 ≤ kc; omega, by show kt - (T31) + 1 ≤ kt; omega⟩ dX11_init_49 (fun q33 H hq hM => ?_)
  replace hf := ho q33 hq
  refine z_eqCS (c2 := kc - (C30 - 1)) (t2 := kt - (T31 - 1)) (by omega) (by omega) ?_
  replace hCT : C30 - 1 ≤ kc ∧ T31 - 1 ≤ kt := by omega
  generalize C30 - 1 = C35 at hf hCT ⊢
  generalize T31 - 1 = T36 at hf hCT ⊢
  obtain ⟨S34, ev, hf⟩ := m_bndPE hf
  replace hM := z_hS hM ev
  clear ev ho hcm hq
  refine lv_dup hx hb dX11_init_52 rfl ?_
  obtain ⟨mc, ms, hcm, ho⟩ := m_galE hf
  refine z_wcallINv X hM (c_X9_init ho) gX11_init_X9_init_n35 ii_X11_init_35.1 ii_X11_init_35.2.1 ii_X11_init_35.2.2 rfl rfl ⟨rfl, rfl⟩ ⟨by show kc - (C35) + mc ≤ kc; omega, by show kt - (T36) + ms ≤ kt; omega⟩ hd_X9_init.2 ⟨Nat.le_of_ble_eq_true rfl, Nat.le_of_ble_eq_true rfl⟩ rfl hl.1 rfl (Nat.le_of_ble_eq_true rfl) dX11_init_53 (fun S39 H locs hf hM => ?_)
  refine z_eqCS (c2 := kc - (C35 - mc)) (t2 := kt - (T36 - ms)) (by omega) (by omega) ?_
  replace hCT : C35 - mc ≤ kc ∧ T36 - ms ≤ kt := by omega
  generalize C35 - mc = C40 at hf hCT ⊢
  generalize T36 - ms = T41 at hf hCT ⊢
  clear ho hcm
  obtain ⟨ca, hf⟩ := m_chkPE hf
  replace ca := z_in hM (by decide) ca
  refine z_putPF (k := 11) (j := 4) (C := RX11) (T := TX11) (N := 10) (fl := zf_11) (ty := tyX11 4) X hw_X11_init_11 tyX11_ok nmX11 hM rfl zc_11 ca (by decide) fl_X11_init_11_4 rfl hin rfl (tyX11_ok 4 (by decide)) rfl rfl zp_11_4 (Nat.le_of_ble_eq_true rfl) dX11_init_56 (fun H locs hM => ?_)
  clear ca
  obtain ⟨S42, ev, hf⟩ := m_bndPE hf
  replace hM := z_hS hM ev
  clear ev
  refine lv_aload_n hx hb dX11_init_59 rfl (lv_at hl 0 rfl) ?_
  obtain ⟨hcm, ho⟩ := hf
  refine z_newO (k := 2) (C := RX2) (T := TX2) (N := 12) (fl := zf_2) X hw_X11_init_2 tyX2_ok hM rfl zc_2 nw_X11_init_40 zd_2 ⟨by show kc - (C40) + 1 ≤ kc; omega, by show kt - (T41) + 12 ≤ kt; omega⟩ dX11_init_60 (fun q43 H hq hM => ?_)
  replace hf := ho q43 hq
  refine z_eqCS (c2 := kc - (C40 - 1)) (t2 := kt - (T41 - 12)) (by omega) (by omega) ?_
  replace hCT : C40 - 1 ≤ kc ∧ T41 - 12 ≤ kt := by omega
  generalize C40 - 1 = C45 at hf hCT ⊢
  generalize T41 - 12 = T46 at hf hCT ⊢
  obtain ⟨S44, ev, hf⟩ := m_bndPE hf
  replace hM := z_hS hM ev
  clear ev ho hcm hq
  refine lv_dup hx hb dX11_init_63 rfl ?_
  obtain ⟨mc, ms, hcm, ho⟩ := m_galE hf
  refine z_wcallIv X hM (c_X2_init ho) gX11_init_X2_init ii_X11_init_42.1 ii_X11_init_42.2.1 ii_X11_init_42.2.2 rfl rfl ⟨rfl, rfl⟩ ⟨by show kc - (C45) + mc ≤ kc; omega, by show kt - (T46) + ms ≤ kt; omega⟩ hd_X2_init.2 ⟨Nat.le_of_ble_eq_true rfl, Nat.le_of_ble_eq_true rfl⟩ rfl hl.1 rfl (Nat.le_of_ble_eq_true rfl) dX11_init_64 (fun S49 H locs hf hM => ?_)
  refine z_eqCS (c2 := kc - (C45 - mc)) (t2 := kt - (T46 - ms)) (by omega) (by omega) ?_
  replace hCT : C45 - mc ≤ kc ∧ T46 - ms ≤ kt := by omega
  generalize C45 - mc = C50 at hf hCT ⊢
  generalize T46 - ms = T51 at hf hCT ⊢
  clear ho hcm
  obtain ⟨ca, hf⟩ := m_chkPE hf
  replace ca := z_in hM (by decide) ca
  refine z_putPF (k := 11) (j := 5) (C := RX11) (T := TX11) (N := 10) (fl := zf_11) (ty := tyX11 5) X hw_X11_init_11 tyX11_ok nmX11 hM rfl zc_11 ca (by decide) fl_X11_init_11_5 rfl hin rfl (tyX11_ok 5 (by decide)) rfl rfl zp_11_5 (Nat.le_of_ble_eq_true rfl) dX11_init_67 (fun H locs hM => ?_)
  clear ca
  obtain ⟨S52, ev, hf⟩ := m_bndPE hf
  replace hM := z_hS hM ev
  clear ev
  refine lv_aload_n hx hb dX11_init_70 rfl (lv_at hl 0 rfl) ?_
  obtain ⟨hcm, ho⟩ := hf
  refine z_newO (k := 3) (C := RX3) (T := TX3) (N := 2) (fl := zf_3) X hw_X11_init_3 tyX3_ok hM rfl zc_3 nw_X11_init_47 zd_3 ⟨by show kc - (C50) + 1 ≤ kc; omega, by show kt - (T51) + 2 ≤ kt; omega⟩ dX11_init_71 (fun q53 H hq hM => ?_)
  replace hf := ho q53 hq
  refine z_eqCS (c2 := kc - (C50 - 1)) (t2 := kt - (T51 - 2)) (by omega) (by omega) ?_
  replace hCT : C50 - 1 ≤ kc ∧ T51 - 2 ≤ kt := by omega
  generalize C50 - 1 = C55 at hf hCT ⊢
  generalize T51 - 2 = T56 at hf hCT ⊢
  obtain ⟨S54, ev, hf⟩ := m_bndPE hf
  replace hM := z_hS hM ev
  clear ev ho hcm hq
  refine lv_dup hx hb dX11_init_74 rfl ?_
  obtain ⟨mc, ms, hcm, ho⟩ := m_galE hf
  refine z_wcallIv X hM (c_X3_init ho) gX11_init_X3_init ii_X11_init_49.1 ii_X11_init_49.2.1 ii_X11_init_49.2.2 rfl rfl ⟨rfl, rfl⟩ ⟨by show kc - (C55) + mc ≤ kc; omega, by show kt - (T56) + ms ≤ kt; omega⟩ hd_X3_init.2 ⟨Nat.le_of_ble_eq_true rfl, Nat.le_of_ble_eq_true rfl⟩ rfl hl.1 rfl (Nat.le_of_ble_eq_true rfl) dX11_init_75 (fun S59 H locs hf hM => ?_)
  refine z_eqCS (c2 := kc - (C55 - mc)) (t2 := kt - (T56 - ms)) (by omega) (by omega) ?_
  replace hCT : C55 - mc ≤ kc ∧ T56 - ms ≤ kt := by omega
  generalize C55 - mc = C60 at hf hCT ⊢
  generalize T56 - ms = T61 at hf hCT ⊢
  clear ho hcm
  obtain ⟨ca, hf⟩ := m_chkPE hf
  replace ca := z_in hM (by decide) ca
  refine z_putPF (k := 11) (j := 6) (C := RX11) (T := TX11) (N := 10) (fl := zf_11) (ty := tyX11 6) X hw_X11_init_11 tyX11_ok nmX11 hM rfl zc_11 ca (by decide) fl_X11_init_11_6 rfl hin rfl (tyX11_ok 6 (by decide)) rfl rfl zp_11_6 (Nat.le_of_ble_eq_true rfl) dX11_init_78 (fun H locs hM => ?_)
  clear ca
  obtain ⟨S62, ev, hf⟩ := m_bndPE hf
  replace hM := z_hS hM ev
  clear ev
  refine lv_aload_n hx hb dX11_init_81 rfl (lv_at hl 0 rfl) ?_
  obtain ⟨hcm, ho⟩ := hf
  refine z_newO (k := 1) (C := RX1) (T := TX1) (N := 8) (fl := zf_1) X hw_X11_init_1 tyX1_ok hM rfl zc_1 nw_X11_init_54 zd_1 ⟨by show kc - (C60) + 1 ≤ kc; omega, by show kt - (T61) + 8 ≤ kt; omega⟩ dX11_init_82 (fun q63 H hq hM => ?_)
  replace hf := ho q63 hq
  refine z_eqCS (c2 := kc - (C60 - 1)) (t2 := kt - (T61 - 8)) (by omega) (by omega) ?_
  replace hCT : C60 - 1 ≤ kc ∧ T61 - 8 ≤ kt := by omega
  generalize C60 - 1 = C65 at hf hCT ⊢
  generalize T61 - 8 = T66 at hf hCT ⊢
  obtain ⟨S64, ev, hf⟩ := m_bndPE hf
  replace hM := z_hS hM ev
  clear ev ho hcm hq
  refine lv_dup hx hb dX11_init_85 rfl ?_
  obtain ⟨mc, ms, hcm, ho⟩ := m_galE hf
  refine z_wcallIv X hM (c_X1_init ho) gX11_init_X1_init ii_X11_init_56.1 ii_X11_init_56.2.1 ii_X11_init_56.2.2 rfl rfl ⟨rfl, rfl⟩ ⟨by show kc - (C65) + mc ≤ kc; omega, by show kt - (T66) + ms ≤ kt; omega⟩ hd_X1_init.2 ⟨Nat.le_of_ble_eq_true rfl, Nat.le_of_ble_eq_true rfl⟩ rfl hl.1 rfl (Nat.le_of_ble_eq_true rfl) dX11_init_86 (fun S69 H locs hf hM => ?_)
  refine z_eqCS (c2 := kc - (C65 - mc)) (t2 := kt - (T66 - ms)) (by omega) (by omega) ?_
  replace hCT : C65 - mc ≤ kc ∧ T66 - ms ≤ kt := by omega
  generalize C65 - mc = C70 at hf hCT ⊢
  generalize T66 - ms = T71 at hf hCT ⊢
  clear ho hcm
  obtain ⟨ca, hf⟩ := m_chkPE hf
  replace ca := z_in hM (by decide) ca
  refine z_putP (k := 11) (j := 7) (C := RX11) (T := TX11) (N := 10) (fl := zf_11) (ty := tyX11 7) X hw_X11_init_11 tyX11_ok nmX11 hM rfl zc_11 ca (by decide) fl_X11_init_11_7 rfl (tyX11_ok 7 (by decide)) rfl rfl zp_11_7 (Nat.le_of_ble_eq_true rfl) dX11_init_89 (fun H locs hM => ?_)
  clear ca
  obtain ⟨S72, ev, hf⟩ := m_bndPE hf
  replace hM := z_hS hM ev
  clear ev
  refine lv_aload_n hx hb dX11_init_92 rfl (lv_at hl 0 rfl) ?_
  refine lv_iconst (v := (0 : Int32)) hx hb dX11_init_93 (by decide) ?_
  obtain ⟨ca, hf⟩ := m_chkPE hf
  replace ca := z_in hM (by decide) ca
  refine z_putI (k := 11) (j := 8) (C := RX11) (T := TX11) (N := 10) (fl := zf_11) (ty := .int) X hw_X11_init_11 tyX11_ok nmX11 hM rfl zc_11 ca (by decide) fl_X11_init_11_8 rfl (tyX11_ok 8 (by decide)) rfl rfl zi_11_8 (Nat.le_of_ble_eq_true rfl) dX11_init_94 (fun H locs hM => ?_)
  clear ca
  obtain ⟨S73, ev, hf⟩ := m_bndPE hf
  replace hM := z_hS hM ev
  clear ev
  refine lv_aload_n hx hb dX11_init_97 rfl (lv_at hl 0 rfl) ?_
  obtain ⟨hcm, ho⟩ := hf
  refine z_newO (k := 0) (C := RX0) (T := TX0) (N := 7) (fl := zf_0) X hw_X11_init_0 tyX0_ok hM rfl zc_0 nw_X11_init_65 zd_0 ⟨by show kc - (C70) + 1 ≤ kc; omega, by show kt - (T71) + 7 ≤ kt; omega⟩ dX11_init_98 (fun q74 H hq hM => ?_)
  replace hf := ho q74 hq
  refine z_eqCS (c2 := kc - (C70 - 1)) (t2 := kt - (T71 - 7)) (by omega) (by omega) ?_
  replace hCT : C70 - 1 ≤ kc ∧ T71 - 7 ≤ kt := by omega
  generalize C70 - 1 = C76 at hf hCT ⊢
  generalize T71 - 7 = T77 at hf hCT ⊢
  obtain ⟨S75, ev, hf⟩ := m_bndPE hf
  replace hM := z_hS hM ev
  clear ev ho hcm hq
  refine lv_dup hx hb dX11_init_101 rfl ?_
  obtain ⟨mc, ms, hcm, ho⟩ := m_galE hf
  refine z_wcallINv X hM (c_X0_init ho) gX11_init_X0_init_n67 ii_X11_init_67.1 ii_X11_init_67.2.1 ii_X11_init_67.2.2 rfl rfl ⟨rfl, rfl⟩ ⟨by show kc - (C76) + mc ≤ kc; omega, by show kt - (T77) + ms ≤ kt; omega⟩ hd_X0_init.2 ⟨Nat.le_of_ble_eq_true rfl, Nat.le_of_ble_eq_true rfl⟩ rfl hl.1 rfl (Nat.le_of_ble_eq_true rfl) dX11_init_102 (fun S80 H locs hf hM => ?_)
  refine z_eqCS (c2 := kc - (C76 - mc)) (t2 := kt - (T77 - ms)) (by omega) (by omega) ?_
  replace hCT : C76 - mc ≤ kc ∧ T77 - ms ≤ kt := by omega
  generalize C76 - mc = C81 at hf hCT ⊢
  generalize T77 - ms = T82 at hf hCT ⊢
  clear ho hcm
  obtain ⟨ca, hf⟩ := m_chkPE hf
  replace ca := z_in hM (by decide) ca
  refine z_putPF (k := 11) (j := 9) (C := RX11) (T := TX11) (N := 10) (fl := zf_11) (ty := tyX11 9) X hw_X11_init_11 tyX11_ok nmX11 hM rfl zc_11 ca (by decide) fl_X11_init_11_9 rfl hin rfl (tyX11_ok 9 (by decide)) rfl rfl zp_11_9 (Nat.le_of_ble_eq_true rfl) dX11_init_105 (fun H locs hM => ?_)
  clear ca
  obtain ⟨S83, ev, hf⟩ := m_bndPE hf
  replace hM := z_hS hM ev
  clear ev
  refine lv_aload_n hx hb dX11_init_108 rfl (lv_at hl 0 rfl) ?_
  obtain ⟨ca, hf⟩ := m_chkPE hf
  replace ca := z_in hM (by decide) ca
  refine z_get (k := 11) (j := 9) (C := RX11) (T := TX11) (N := 10) (fl := zf_11) (v := va_rf ((zP S83 9 x0).map (zh y))) X hw_X11_init_11 hM rfl zc_11 ca (by decide) fl_X11_init_11_9 rfl dX11_init_109 ?_
  clear ca
  obtain ⟨b84, hb9, hf⟩ := m_calPE hf
  refine z_topr hb9 ?_
  clear hb9
  obtain ⟨ca, hf⟩ := m_chkPE hf
  replace ca := z_in hM (by decide) ca
  obtain ⟨o85, ho, hf⟩ := m_calPE hf
  refine z_gcallVv (k := 0) (C := RX0) (T := TX0) (N := 7) (fl := zf_0) X hM rfl zc_0 ca (c_X0_setUp ho) gX11_init_X0_setUp rfl ⟨rfl, rfl⟩ hd_X0_setUp ⟨Nat.le_of_ble_eq_true rfl, Nat.le_of_ble_eq_true rfl⟩ rfl hl.1 rfl ⟨Nat.sub_le _ _, Nat.sub_le _ _⟩ (Nat.le_of_ble_eq_true rfl) dX11_init_112 (fun H locs hM => ?_)
  clear ho
  exact hret _ _ _ H locs _ ls hf hM dX11_init_115
noncomputable def g_X11_init (x0 : Nat) (S : ZS) (mc ms : Nat) (Pw : Int32 → ZS → Prop) : Prop := g_X11_init_0 Pw x0 S mc ms
theorem c_X11_init {l : Launch} {D : va_G} {y : Nat → ClassId} {x0 : Nat} {S : ZS} {kc kt : Nat} {Pw : Int32 → ZS → Prop} (hf : g_X11_init x0 S kc kt Pw) : zWv l yX11_init wsX11_init ({ frames := 5, cells := kc, slots := kt, locals := 105 } : Room) [.ref (zh y x0)] D y S kc kt Pw :=
  z_wentC (own := RX11) (cc := cX11_init) (maxL := 1) (by decide) rfl rfl (Nat.le_of_ble_eq_true rfl) ⟨rfl, rfl⟩ rfl (fun p e s m args below meth c A0 Q H locs ls X hin hret hM hl => w_X11_init_0 X hin hret hf ⟨Nat.le_refl _, Nat.le_refl _⟩ hM (lv_sub hl [0] rfl))
theorem hd_X11_byteOf : yX11_byteOf.cls ≠ "java/lang/invoke/MethodHandle" ∧ yX11_byteOf.cls ≠ "java/lang/invoke/VarHandle" ∧ (parseMethodDescriptor yX11_byteOf.desc).map (fun d => d.parameters.length) = some 2 := by decide +kernel
theorem cl_X11_byteOf_277 : Cond.constantLong RX11 277 (255) ∈ wsX11_byteOf := by decide +kernel
noncomputable def f_X11_byteOf_0 (x0 : Int64) (x2 : Int32) (S : ZS) : Option (Int32 × ZS) :=
  m_bnd ((8 : Int32) * x2) (fun v1 =>
  m_bnd (((x0).toUInt64 >>> ((v1).toInt64.toUInt64 &&& Int64.toUInt64 63)).toInt64) (fun v2 =>
  m_bnd (v2 &&& (255 : Int64)) (fun v3 =>
  m_bnd ((v3).toInt32) (fun v4 =>
  m_bnd ((v4.toUInt32 % 65536).toInt32) (fun v5 =>
  m_chk (vp_nar .char v5 = v5) (some (v5, S)))))))

set_option maxRecDepth 100000 in
set_option maxHeartbeats 4000000 in
theorem w_X11_byteOf_0 {p : Program} {l : Launch} {e : Env} {s : State} {m : MethodId} {args : Array Value} {below : List Frame} {meth : Method} {c : Code} {Q : State → Prop} {D : va_G} {y : Nat → ClassId} {A0 : Nat → Prop} {o : Int32 × ZS} (X : CallFix p m c cX11_byteOf 3 s args wsX11_byteOf RX11) (hret : zRi p l e ({ frames := 0, cells := 0, slots := 0, locals := 0 } : Room) s m args below meth c Q cX11_byteOf D y A0 .char o) {x0 : Int64} {x2 : Int32} {S : ZS} {H : Heap} {locs : List Loc} {ls : Array Slot} (hf : f_X11_byteOf_0 x0 x2 S = some o) (hM : zH D y A0 s H locs S) (hl : lv_has ls 3 [(0, .long x0), (2, .int x2)]) : W p l e ({ frames := 0, cells := 0, slots := 0, locals := 0 } : Room) s m args below meth c H locs 0 0 Q (F0 m 0 ls []) := by
  obtain ⟨hx, hb, hml, hown, hts⟩ := id X
  unfold f_X11_byteOf_0 at hf
  refine lv_lload_n hx hb dX11_byteOf_0 rfl (lv_at hl 0 rfl) ?_
  refine lv_bipush (v := (8 : Int32)) hx hb dX11_byteOf_1 (by decide) ?_
  refine lv_iload_n hx hb dX11_byteOf_3 rfl (lv_at hl 1 rfl) ?_
  refine lv_imul hx hb dX11_byteOf_4 ?_
  obtain ⟨v1, ev, hf⟩ := m_bndE hf
  refine m_top ev ?_
  clear ev
  refine lv_lushr (v := ((x0).toUInt64 >>> ((v1).toInt64.toUInt64 &&& Int64.toUInt64 63)).toInt64) hx hb dX11_byteOf_5 rfl ?_
  obtain ⟨v2, ev, hf⟩ := m_bndE hf
  refine m_topl ev ?_
  clear ev
  refine lv_ldc2 (v := (255 : Int64)) hx hb hown (hts _ cl_X11_byteOf_277) dX11_byteOf_6 ?_
  refine lv_land hx hb dX11_byteOf_9 ?_
  obtain ⟨v3, ev, hf⟩ := m_bndE hf
  refine m_topl ev ?_
  clear ev
  refine lv_l2i (v := (v3).toInt32) hx hb dX11_byteOf_10 rfl ?_
  obtain ⟨v4, ev, hf⟩ := m_bndE hf
  refine m_top ev ?_
  clear ev
  refine lv_i2c (v := (v4.toUInt32 % 65536).toInt32) hx hb dX11_byteOf_11 rfl ?_
  obtain ⟨v5, ev, hf⟩ := m_bndE hf
  refine m_top ev ?_
  clear ev
  obtain ⟨cd, hf⟩ := m_chkE hf
  cases hf
  exact hret H locs _ ls hM (m_nc cd) dX11_byteOf_12
noncomputable def f_X11_byteOf (x0 : Int64) (x2 : Int32) (S : ZS) : Option (Int32 × ZS) := f_X11_byteOf_0 x0 x2 S
theorem c_X11_byteOf {l : Launch} {D : va_G} {y : Nat → ClassId} {x0 : Int64} {x2 : Int32} {S : ZS} {o : Int32 × ZS} (hf : f_X11_byteOf x0 x2 S = some o) : zMi l yX11_byteOf wsX11_byteOf ({ frames := 0, cells := 0, slots := 0, locals := 0 } : Room) [.long x0, .int x2] D y S o :=
  z_entryI (own := RX11) (cc := cX11_byteOf) (maxL := 3) (by decide) rfl rfl (Nat.le_of_ble_eq_true rfl) (fun p e s m args below meth c A0 Q H locs ls X hret hM hl => w_X11_byteOf_0 X hret hf hM (lv_sub hl [0, 1] rfl))
theorem hd_X11_type : yX11_type.cls = RX11 ∧ yX11_type.cls ≠ "java/lang/invoke/MethodHandle" ∧ yX11_type.cls ≠ "java/lang/invoke/VarHandle" ∧ (parseMethodDescriptor yX11_type.desc).map (fun d => d.parameters.length) = some 2 := by decide +kernel
theorem fl_X11_type_11_0 : Cond.fieldLink RX11 10 "MoveTexts" "text" "LMoveTexts$Row;" ∈ wsX11_type := by decide +kernel
theorem hw_X11_type_11 : ∀ w ∈ wsX110, w ∈ wsX11_type := by decide +kernel
noncomputable def g_X11_type_26 (Pw : Int32 → ZS → Prop) (S : ZS) (C T : Nat) : Prop :=
  m_chkQ (vp_nar .boolean (0 : Int32) = (0 : Int32)) (Pw (0 : Int32) S)

set_option maxRecDepth 100000 in
set_option maxHeartbeats 4000000 in
theorem w_X11_type_26 {p : Program} {l : Launch} {e : Env} {s : State} {m : MethodId} {args : Array Value} {below : List Frame} {meth : Method} {c : Code} {Q : State → Prop} {D : va_G} {y : Nat → ClassId} {A0 : Nat → Prop} {kc kt : Nat} {Pw : Int32 → ZS → Prop} (X : CallFix p m c cX11_type 6 s args wsX11_type RX11) (hret : zQi p l e ({ frames := 2, cells := kc, slots := kt, locals := 82 } : Room) s m args below meth c Q cX11_type D y A0 .boolean Pw) {S : ZS} {C T : Nat} {H : Heap} {locs : List Loc} {ls : Array Slot} (hf : g_X11_type_26 Pw  S C T) (hCT : C ≤ kc ∧ T ≤ kt) (hM : zH D y A0 s H locs S) (hl : lv_has ls 6 []) : W p l e ({ frames := 2, cells := kc, slots := kt, locals := 82 } : Room) s m args below meth c H locs (kc - C) (kt - T) Q (F0 m 26 ls []) := by
  obtain ⟨hx, hb, hml, hown, hts⟩ := id X
  unfold g_X11_type_26 at hf
  refine lv_iconst (v := (0 : Int32)) hx hb dX11_type_26 (by decide) ?_
  obtain ⟨cd, hf⟩ := m_chkPE hf
  exact hret _ _ _ _ H locs _ ls hf hM (m_nb cd) dX11_type_27
noncomputable def g_X11_type_77s (Pw : Int32 → ZS → Prop) (self77 : Nat → Int64 → Int32 → Int32 → ZS → Nat → Nat → Prop) (x0 : Nat) (x1 : Int64) (x3 : Int32) (x4 : Int32) (S : ZS) (C T : Nat) : Prop :=
  m_ifQ (x3 ≤ x4) (
  m_chkQ (vp_nar .boolean (1 : Int32) = (1 : Int32)) (Pw (1 : Int32) S)
  ) (
  m_chkQ (zK S x0 = 11) (
  m_calP (zP S 0 x0) (fun b1 =>
  m_calP (f_X11_byteOf x1 x4 S) (fun o2 =>
  m_chkQ (zK o2.2 b1 = 6) (
  m_gal (C) (T) (fun mc ms Pw => g_X6_put b1 o2.1 o2.2 mc ms Pw) (fun r4 S5 C6 T7 =>
  m_bndP (x4 + (1 : Int32)) (fun v8 =>
  self77 x0 x1 x3 v8 S5 (C6) (T7)))))))
  )

set_option maxRecDepth 100000 in
set_option maxHeartbeats 4000000 in
theorem ws_X11_type_77 {p : Program} {l : Launch} {e : Env} {s : State} {m : MethodId} {args : Array Value} {below : List Frame} {meth : Method} {c : Code} {Q : State → Prop} {D : va_G} {y : Nat → ClassId} {A0 : Nat → Prop} {kc kt : Nat} {Pw : Int32 → ZS → Prop} (X : CallFix p m c cX11_type 6 s args wsX11_type RX11) (hret : zQi p l e ({ frames := 2, cells := kc, slots := kt, locals := 82 } : Room) s m args below meth c Q cX11_type D y A0 .boolean Pw) {self77 : Nat → Int64 → Int32 → Int32 → ZS → Nat → Nat → Prop} (hself77 : ∀ (x0 : Nat) (x1 : Int64) (x3 : Int32) (x4 : Int32) (S : ZS) (C T : Nat) (H : Heap) (locs : List Loc) (ls : Array Slot), self77 x0 x1 x3 x4 S C T → C ≤ kc ∧ T ≤ kt → zH D y A0 s H locs S → lv_has ls 6 [(0, .ref (zh y x0)), (1, .long x1), (3, .int x3), (4, .int x4)] → W p l e ({ frames := 2, cells := kc, slots := kt, locals := 82 } : Room) s m args below meth c H locs (kc - C) (kt - T) Q (F0 m 77 ls [])) {x0 : Nat} {x1 : Int64} {x3 : Int32} {x4 : Int32} {S : ZS} {C T : Nat} {H : Heap} {locs : List Loc} {ls : Array Slot} (hf : g_X11_type_77s Pw self77 x0 x1 x3 x4 S C T) (hCT : C ≤ kc ∧ T ≤ kt) (hM : zH D y A0 s H locs S) (hl : lv_has ls 6 [(0, .ref (zh y x0)), (1, .long x1), (3, .int x3), (4, .int x4)]) : W p l e ({ frames := 2, cells := kc, slots := kt, locals := 82 } : Room) s m args below meth c H locs (kc - C) (kt - T) Q (F0 m 77 ls []) := by
  obtain ⟨hx, hb, hml, hown, hts⟩ := id X
  unfold g_X11_type_77s at hf
  refine lv_iload hx hb dX11_type_77 (lv_at hl 3 rfl) ?_
  refine lv_iload_n hx hb dX11_type_79 rfl (lv_at hl 2 rfl) ?_
  refine lv_icmp_ge (tgt := 102) hx hb dX11_type_80 (by decide) (fun cc1 => ?_) (fun cc1 => ?_)
  · replace hf := m_ifPT hf cc1
    refine lv_iconst (v := (1 : Int32)) hx hb dX11_type_102 (by decide) ?_
    obtain ⟨cd, hf⟩ := m_chkPE hf
    exact hret _ _ _ _ H locs _ ls hf hM (m_nb cd) dX11_type_103
  · replace hf := m_ifPF hf cc1
    refine lv_aload_n hx hb dX11_type_83 rfl (lv_at hl 0 rfl) ?_
    obtain ⟨ca, hf⟩ := m_chkPE hf
    replace ca := z_in hM (by decide) ca
    refine z_get (k := 11) (j := 0) (C := RX11) (T := TX11) (N := 10) (fl := zf_11) (v := va_rf ((zP S 0 x0).map (zh y))) X hw_X11_type_11 hM rfl zc_11 ca (by decide) fl_X11_type_11_0 rfl dX11_type_84 ?_
    clear ca
    obtain ⟨b1, hb9, hf⟩ := m_calPE hf
    refine z_topr hb9 ?_
    clear hb9
    refine lv_lload_n hx hb dX11_type_87 rfl (lv_at hl 1 rfl) ?_
    refine lv_iload hx hb dX11_type_88 (lv_at hl 3 rfl) ?_
    obtain ⟨o2, ho, hf⟩ := m_calPE hf
    refine z_gcallSi X hM (c_X11_byteOf ho) gX11_type_X11_byteOf rfl ⟨rfl, rfl⟩ hd_X11_byteOf ⟨Nat.le_of_ble_eq_true rfl, Nat.le_of_ble_eq_true rfl⟩ rfl hl.1 rfl ⟨Nat.sub_le _ _, Nat.sub_le _ _⟩ (Nat.le_of_ble_eq_true rfl) dX11_type_90 (fun H locs hM => ?_)
    clear ho
    obtain ⟨ca, hf⟩ := m_chkPE hf
    replace ca := z_in hM (by decide) ca
    obtain ⟨mc, ms, hcm, ho⟩ := m_galE hf
    refine z_wcallVv (k := 6) (C := RX6) (T := TX6) (N := 2) (fl := zf_6) X hM rfl zc_6 ca (c_X6_put ho) gX11_type_X6_put rfl ⟨rfl, rfl⟩ ⟨by show kc - (C) + mc ≤ kc; omega, by show kt - (T) + ms ≤ kt; omega⟩ hd_X6_put ⟨Nat.le_of_ble_eq_true rfl, Nat.le_of_ble_eq_true rfl⟩ rfl hl.1 rfl (Nat.le_of_ble_eq_true rfl) dX11_type_93 (fun S5 H locs hf hM => ?_)
    refine z_eqCS (c2 := kc - (C - mc)) (t2 := kt - (T - ms)) (by omega) (by omega) ?_
    replace hCT : C - mc ≤ kc ∧ T - ms ≤ kt := by omega
    generalize C - mc = C6 at hf hCT ⊢
    generalize T - ms = T7 at hf hCT ⊢
    clear ho hcm
    obtain ⟨v8, ev, hf⟩ := m_bndPE hf
    refine lv_iinc (v := v8) (lv' := [(4, .int v8), (0, .ref (zh y x0)), (1, .long x1), (3, .int x3)]) hx hb dX11_type_96 hl (k := 3) rfl (by rw [ev]; rfl) (by decide) rfl (fun ls hl => ?_)
    clear ev
    refine lv_goto (tgt := 77) hx hb dX11_type_99 (by decide) ?_
    exact hself77 x0 x1 x3 v8 _ _ _ _ _ _ hf hCT hM (lv_sub hl [1, 2, 3, 0] rfl)
noncomputable def g_X11_type_77 (Pw : Int32 → ZS → Prop) : Nat → Nat → Int64 → Int32 → Int32 → ZS → Nat → Nat → Prop
  | 0 => fun _ _ _ _ _ _ _ => False
  | n + 1 => g_X11_type_77s Pw (g_X11_type_77 Pw n)
theorem w_X11_type_77 {p : Program} {l : Launch} {e : Env} {s : State} {m : MethodId} {args : Array Value} {below : List Frame} {meth : Method} {c : Code} {Q : State → Prop} {D : va_G} {y : Nat → ClassId} {A0 : Nat → Prop} {kc kt : Nat} {Pw : Int32 → ZS → Prop} (X : CallFix p m c cX11_type 6 s args wsX11_type RX11) (hret : zQi p l e ({ frames := 2, cells := kc, slots := kt, locals := 82 } : Room) s m args below meth c Q cX11_type D y A0 .boolean Pw) (n : Nat) : ∀ (x0 : Nat) (x1 : Int64) (x3 : Int32) (x4 : Int32) (S : ZS) (C T : Nat) (H : Heap) (locs : List Loc) (ls : Array Slot), g_X11_type_77 Pw n x0 x1 x3 x4 S C T → C ≤ kc ∧ T ≤ kt → zH D y A0 s H locs S → lv_has ls 6 [(0, .ref (zh y x0)), (1, .long x1), (3, .int x3), (4, .int x4)] → W p l e ({ frames := 2, cells := kc, slots := kt, locals := 82 } : Room) s m args below meth c H locs (kc - C) (kt - T) Q (F0 m 77 ls []) := by
  induction n with
  | zero => intro x0 x1 x3 x4 S C T H locs ls hf; exact absurd hf id
  | succ n ih => intro x0 x1 x3 x4 S C T H locs ls hf hCT hM hl; exact ws_X11_type_77 X hret (self77 := g_X11_type_77 Pw n) ih hf hCT hM hl
noncomputable def g_X11_type_68 (Pw : Int32 → ZS → Prop) (self31 : Nat → Int64 → Int32 → Int32 → ZS → Nat → Nat → Prop) (x0 : Nat) (x1 : Int64) (x3 : Int32) (x4 : Int32) (S : ZS) (C T : Nat) : Prop :=
  m_bndP (x4 + (1 : Int32)) (fun v1 =>
  self31 x0 x1 x3 v1 S (C) (T))

set_option maxRecDepth 100000 in
set_option maxHeartbeats 4000000 in
theorem w_X11_type_68 {p : Program} {l : Launch} {e : Env} {s : State} {m : MethodId} {args : Array Value} {below : List Frame} {meth : Method} {c : Code} {Q : State → Prop} {D : va_G} {y : Nat → ClassId} {A0 : Nat → Prop} {kc kt : Nat} {Pw : Int32 → ZS → Prop} (X : CallFix p m c cX11_type 6 s args wsX11_type RX11) (hret : zQi p l e ({ frames := 2, cells := kc, slots := kt, locals := 82 } : Room) s m args below meth c Q cX11_type D y A0 .boolean Pw) {self31 : Nat → Int64 → Int32 → Int32 → ZS → Nat → Nat → Prop} (hself31 : ∀ (x0 : Nat) (x1 : Int64) (x3 : Int32) (x4 : Int32) (S : ZS) (C T : Nat) (H : Heap) (locs : List Loc) (ls : Array Slot), self31 x0 x1 x3 x4 S C T → C ≤ kc ∧ T ≤ kt → zH D y A0 s H locs S → lv_has ls 6 [(0, .ref (zh y x0)), (1, .long x1), (3, .int x3), (4, .int x4)] → W p l e ({ frames := 2, cells := kc, slots := kt, locals := 82 } : Room) s m args below meth c H locs (kc - C) (kt - T) Q (F0 m 31 ls [])) {x0 : Nat} {x1 : Int64} {x3 : Int32} {x4 : Int32} {S : ZS} {C T : Nat} {H : Heap} {locs : List Loc} {ls : Array Slot} (hf : g_X11_type_68 Pw self31 x0 x1 x3 x4 S C T) (hCT : C ≤ kc ∧ T ≤ kt) (hM : zH D y A0 s H locs S) (hl : lv_has ls 6 [(0, .ref (zh y x0)), (1, .long x1), (3, .int x3), (4, .int x4)]) : W p l e ({ frames := 2, cells := kc, slots := kt, locals := 82 } : Room) s m args below meth c H locs (kc - C) (kt - T) Q (F0 m 68 ls []) := by
  obtain ⟨hx, hb, hml, hown, hts⟩ := id X
  unfold g_X11_type_68 at hf
  obtain ⟨v1, ev, hf⟩ := m_bndPE hf
  refine lv_iinc (v := v1) (lv' := [(4, .int v1), (0, .ref (zh y x0)), (1, .long x1), (3, .int x3)]) hx hb dX11_type_68 hl (k := 3) rfl (by rw [ev]; rfl) (by decide) rfl (fun ls hl => ?_)
  clear ev
  refine lv_goto (tgt := 31) hx hb dX11_type_71 (by decide) ?_
  exact hself31 x0 x1 x3 v1 _ _ _ _ _ _ hf hCT hM (lv_sub hl [1, 2, 3, 0] rfl)
noncomputable def g_X11_type_66 (Pw : Int32 → ZS → Prop) (S : ZS) (C T : Nat) : Prop :=
  m_chkQ (vp_nar .boolean (0 : Int32) = (0 : Int32)) (Pw (0 : Int32) S)

set_option maxRecDepth 100000 in
set_option maxHeartbeats 4000000 in
theorem w_X11_type_66 {p : Program} {l : Launch} {e : Env} {s : State} {m : MethodId} {args : Array Value} {below : List Frame} {meth : Method} {c : Code} {Q : State → Prop} {D : va_G} {y : Nat → ClassId} {A0 : Nat → Prop} {kc kt : Nat} {Pw : Int32 → ZS → Prop} (X : CallFix p m c cX11_type 6 s args wsX11_type RX11) (hret : zQi p l e ({ frames := 2, cells := kc, slots := kt, locals := 82 } : Room) s m args below meth c Q cX11_type D y A0 .boolean Pw) {S : ZS} {C T : Nat} {H : Heap} {locs : List Loc} {ls : Array Slot} (hf : g_X11_type_66 Pw  S C T) (hCT : C ≤ kc ∧ T ≤ kt) (hM : zH D y A0 s H locs S) (hl : lv_has ls 6 []) : W p l e ({ frames := 2, cells := kc, slots := kt, locals := 82 } : Room) s m args below meth c H locs (kc - C) (kt - T) Q (F0 m 66 ls []) := by
  obtain ⟨hx, hb, hml, hown, hts⟩ := id X
  unfold g_X11_type_66 at hf
  refine lv_iconst (v := (0 : Int32)) hx hb dX11_type_66 (by decide) ?_
  obtain ⟨cd, hf⟩ := m_chkPE hf
  exact hret _ _ _ _ H locs _ ls hf hM (m_nb cd) dX11_type_67
noncomputable def g_X11_type_31s (Pw : Int32 → ZS → Prop) (self31 : Nat → Int64 → Int32 → Int32 → ZS → Nat → Nat → Prop) (x0 : Nat) (x1 : Int64) (x3 : Int32) (x4 : Int32) (S : ZS) (C T : Nat) : Prop :=
  m_ifQ (x3 ≤ x4) (
  g_X11_type_77 Pw mFuel x0 x1 x3 (0 : Int32) S (C) (T)
  ) (
  m_calP (f_X11_byteOf x1 x4 S) (fun o1 =>
  m_ifQ (o1.1 = (10 : Int32)) (
  g_X11_type_68 Pw self31 x0 x1 x3 x4 o1.2 (C) (T)
  ) (
  m_ifQ (o1.1 < (32 : Int32)) (
  g_X11_type_66 Pw  o1.2 (C) (T)
  ) (
  m_ifQ (o1.1 ≤ (126 : Int32)) (
  g_X11_type_68 Pw self31 x0 x1 x3 x4 o1.2 (C) (T)
  ) (
  g_X11_type_66 Pw  o1.2 (C) (T)
  )
  )
  ))
  )

set_option maxRecDepth 100000 in
set_option maxHeartbeats 4000000 in
theorem ws_X11_type_31 {p : Program} {l : Launch} {e : Env} {s : State} {m : MethodId} {args : Array Value} {below : List Frame} {meth : Method} {c : Code} {Q : State → Prop} {D : va_G} {y : Nat → ClassId} {A0 : Nat → Prop} {kc kt : Nat} {Pw : Int32 → ZS → Prop} (X : CallFix p m c cX11_type 6 s args wsX11_type RX11) (hret : zQi p l e ({ frames := 2, cells := kc, slots := kt, locals := 82 } : Room) s m args below meth c Q cX11_type D y A0 .boolean Pw) {self31 : Nat → Int64 → Int32 → Int32 → ZS → Nat → Nat → Prop} (hself31 : ∀ (x0 : Nat) (x1 : Int64) (x3 : Int32) (x4 : Int32) (S : ZS) (C T : Nat) (H : Heap) (locs : List Loc) (ls : Array Slot), self31 x0 x1 x3 x4 S C T → C ≤ kc ∧ T ≤ kt → zH D y A0 s H locs S → lv_has ls 6 [(0, .ref (zh y x0)), (1, .long x1), (3, .int x3), (4, .int x4)] → W p l e ({ frames := 2, cells := kc, slots := kt, locals := 82 } : Room) s m args below meth c H locs (kc - C) (kt - T) Q (F0 m 31 ls [])) {x0 : Nat} {x1 : Int64} {x3 : Int32} {x4 : Int32} {S : ZS} {C T : Nat} {H : Heap} {locs : List Loc} {ls : Array Slot} (hf : g_X11_type_31s Pw self31 x0 x1 x3 x4 S C T) (hCT : C ≤ kc ∧ T ≤ kt) (hM : zH D y A0 s H locs S) (hl : lv_has ls 6 [(0, .ref (zh y x0)), (1, .long x1), (3, .int x3), (4, .int x4)]) : W p l e ({ frames := 2, cells := kc, slots := kt, locals := 82 } : Room) s m args below meth c H locs (kc - C) (kt - T) Q (F0 m 31 ls []) := by
  obtain ⟨hx, hb, hml, hown, hts⟩ := id X
  unfold g_X11_type_31s at hf
  refine lv_iload hx hb dX11_type_31 (lv_at hl 3 rfl) ?_
  refine lv_iload_n hx hb dX11_type_33 rfl (lv_at hl 2 rfl) ?_
  refine lv_icmp_ge (tgt := 74) hx hb dX11_type_34 (by decide) (fun cc1 => ?_) (fun cc1 => ?_)
  · replace hf := m_ifPT hf cc1
    refine lv_iconst (v := (0 : Int32)) hx hb dX11_type_74 (by decide) ?_
    refine lv_istore (lv' := [(4, .int (0 : Int32)), (0, .ref (zh y x0)), (1, .long x1), (3, .int x3)]) hx hb dX11_type_75 hl (by decide) rfl (fun ls hl => ?_)
    exact w_X11_type_77 X hret _ x0 x1 x3 (0 : Int32) _ _ _ _ _ _ hf hCT hM (lv_sub hl [1, 2, 3, 0] rfl)
  · replace hf := m_ifPF hf cc1
    refine lv_lload_n hx hb dX11_type_37 rfl (lv_at hl 1 rfl) ?_
    refine lv_iload hx hb dX11_type_38 (lv_at hl 3 rfl) ?_
    obtain ⟨o1, ho, hf⟩ := m_calPE hf
    refine z_gcallSi X hM (c_X11_byteOf ho) gX11_type_X11_byteOf rfl ⟨rfl, rfl⟩ hd_X11_byteOf ⟨Nat.le_of_ble_eq_true rfl, Nat.le_of_ble_eq_true rfl⟩ rfl hl.1 rfl ⟨Nat.sub_le _ _, Nat.sub_le _ _⟩ (Nat.le_of_ble_eq_true rfl) dX11_type_40 (fun H locs hM => ?_)
    clear ho
    refine lv_istore (lv' := [(5, .int o1.1), (0, .ref (zh y x0)), (1, .long x1), (3, .int x3), (4, .int x4)]) hx hb dX11_type_43 hl (by decide) rfl (fun ls hl => ?_)
    refine lv_iload hx hb dX11_type_45 (lv_at hl 0 rfl) ?_
    refine lv_bipush (v := (10 : Int32)) hx hb dX11_type_47 (by decide) ?_
    refine lv_icmp_eq (tgt := 68) hx hb dX11_type_49 (by decide) (fun cc1 => ?_) (fun cc1 => ?_)
    · replace hf := m_ifPT hf cc1
      exact w_X11_type_68 (x0 := x0) (x1 := x1) (x3 := x3) (x4 := x4) X hret hself31 hf hCT hM (lv_sub hl [1, 2, 3, 4] rfl)
    · replace hf := m_ifPF hf cc1
      refine lv_iload hx hb dX11_type_52 (lv_at hl 0 rfl) ?_
      refine lv_bipush (v := (32 : Int32)) hx hb dX11_type_54 (by decide) ?_
      refine lv_icmp_lt (tgt := 66) hx hb dX11_type_56 (by decide) (fun cc1 => ?_) (fun cc1 => ?_)
      · replace hf := m_ifPT hf cc1
        exact w_X11_type_66 X hret hf hCT hM (lv_sub hl [] rfl)
      · replace hf := m_ifPF hf cc1
        refine lv_iload hx hb dX11_type_59 (lv_at hl 0 rfl) ?_
        refine lv_bipush (v := (126 : Int32)) hx hb dX11_type_61 (by decide) ?_
        refine lv_icmp_le (tgt := 68) hx hb dX11_type_63 (by decide) (fun cc1 => ?_) (fun cc1 => ?_)
        · replace hf := m_ifPT hf cc1
          exact w_X11_type_68 (x0 := x0) (x1 := x1) (x3 := x3) (x4 := x4) X hret hself31 hf hCT hM (lv_sub hl [1, 2, 3, 4] rfl)
        · replace hf := m_ifPF hf cc1
          exact w_X11_type_66 X hret hf hCT hM (lv_sub hl [] rfl)
noncomputable def g_X11_type_31 (Pw : Int32 → ZS → Prop) : Nat → Nat → Int64 → Int32 → Int32 → ZS → Nat → Nat → Prop
  | 0 => fun _ _ _ _ _ _ _ => False
  | n + 1 => g_X11_type_31s Pw (g_X11_type_31 Pw n)
theorem w_X11_type_31 {p : Program} {l : Launch} {e : Env} {s : State} {m : MethodId} {args : Array Value} {below : List Frame} {meth : Method} {c : Code} {Q : State → Prop} {D : va_G} {y : Nat → ClassId} {A0 : Nat → Prop} {kc kt : Nat} {Pw : Int32 → ZS → Prop} (X : CallFix p m c cX11_type 6 s args wsX11_type RX11) (hret : zQi p l e ({ frames := 2, cells := kc, slots := kt, locals := 82 } : Room) s m args below meth c Q cX11_type D y A0 .boolean Pw) (n : Nat) : ∀ (x0 : Nat) (x1 : Int64) (x3 : Int32) (x4 : Int32) (S : ZS) (C T : Nat) (H : Heap) (locs : List Loc) (ls : Array Slot), g_X11_type_31 Pw n x0 x1 x3 x4 S C T → C ≤ kc ∧ T ≤ kt → zH D y A0 s H locs S → lv_has ls 6 [(0, .ref (zh y x0)), (1, .long x1), (3, .int x3), (4, .int x4)] → W p l e ({ frames := 2, cells := kc, slots := kt, locals := 82 } : Room) s m args below meth c H locs (kc - C) (kt - T) Q (F0 m 31 ls []) := by
  induction n with
  | zero => intro x0 x1 x3 x4 S C T H locs ls hf; exact absurd hf id
  | succ n ih => intro x0 x1 x3 x4 S C T H locs ls hf hCT hM hl; exact ws_X11_type_31 X hret (self31 := g_X11_type_31 Pw n) ih hf hCT hM hl
noncomputable def g_X11_type_0 (Pw : Int32 → ZS → Prop) (x0 : Nat) (x1 : Int64) (x3 : Int32) (S : ZS) (C T : Nat) : Prop :=
  m_ifQ (x3 < (1 : Int32)) (
  g_X11_type_26 Pw  S (C) (T)
  ) (
  m_ifQ ((8 : Int32) < x3) (
  g_X11_type_26 Pw  S (C) (T)
  ) (
  m_chkQ (zK S x0 = 11) (
  m_calP (zP S 0 x0) (fun b1 =>
  m_chkQ (zK S b1 = 6) (
  m_calP (f_X6_size b1 S) (fun o2 =>
  m_bndP (o2.1 + x3) (fun v3 =>
  m_ifQ (v3 ≤ (2000 : Int32)) (
  g_X11_type_31 Pw mFuel x0 x1 x3 (0 : Int32) o2.2 (C) (T)
  ) (
  g_X11_type_26 Pw  o2.2 (C) (T)
  ))))))
  )
  )

set_option maxRecDepth 100000 in
set_option maxHeartbeats 4000000 in
theorem w_X11_type_0 {p : Program} {l : Launch} {e : Env} {s : State} {m : MethodId} {args : Array Value} {below : List Frame} {meth : Method} {c : Code} {Q : State → Prop} {D : va_G} {y : Nat → ClassId} {A0 : Nat → Prop} {kc kt : Nat} {Pw : Int32 → ZS → Prop} (X : CallFix p m c cX11_type 6 s args wsX11_type RX11) (hret : zQi p l e ({ frames := 2, cells := kc, slots := kt, locals := 82 } : Room) s m args below meth c Q cX11_type D y A0 .boolean Pw) {x0 : Nat} {x1 : Int64} {x3 : Int32} {S : ZS} {C T : Nat} {H : Heap} {locs : List Loc} {ls : Array Slot} (hf : g_X11_type_0 Pw x0 x1 x3 S C T) (hCT : C ≤ kc ∧ T ≤ kt) (hM : zH D y A0 s H locs S) (hl : lv_has ls 6 [(0, .ref (zh y x0)), (1, .long x1), (3, .int x3)]) : W p l e ({ frames := 2, cells := kc, slots := kt, locals := 82 } : Room) s m args below meth c H locs (kc - C) (kt - T) Q (F0 m 0 ls []) := by
  obtain ⟨hx, hb, hml, hown, hts⟩ := id X
  unfold g_X11_type_0 at hf
  refine lv_iload_n hx hb dX11_type_0 rfl (lv_at hl 2 rfl) ?_
  refine lv_iconst (v := (1 : Int32)) hx hb dX11_type_1 (by decide) ?_
  refine lv_icmp_lt (tgt := 26) hx hb dX11_type_2 (by decide) (fun cc1 => ?_) (fun cc1 => ?_)
  · replace hf := m_ifPT hf cc1
    exact w_X11_type_26 X hret hf hCT hM (lv_sub hl [] rfl)
  · replace hf := m_ifPF hf cc1
    refine lv_iload_n hx hb dX11_type_5 rfl (lv_at hl 2 rfl) ?_
    refine lv_bipush (v := (8 : Int32)) hx hb dX11_type_6 (by decide) ?_
    refine lv_icmp_gt (tgt := 26) hx hb dX11_type_8 (by decide) (fun cc1 => ?_) (fun cc1 => ?_)
    · replace hf := m_ifPT hf cc1
      exact w_X11_type_26 X hret hf hCT hM (lv_sub hl [] rfl)
    · replace hf := m_ifPF hf cc1
      refine lv_aload_n hx hb dX11_type_11 rfl (lv_at hl 0 rfl) ?_
      obtain ⟨ca, hf⟩ := m_chkPE hf
      replace ca := z_in hM (by decide) ca
      refine z_get (k := 11) (j := 0) (C := RX11) (T := TX11) (N := 10) (fl := zf_11) (v := va_rf ((zP S 0 x0).map (zh y))) X hw_X11_type_11 hM rfl zc_11 ca (by decide) fl_X11_type_11_0 rfl dX11_type_12 ?_
      clear ca
      obtain ⟨b1, hb9, hf⟩ := m_calPE hf
      refine z_topr hb9 ?_
      clear hb9
      obtain ⟨ca, hf⟩ := m_chkPE hf
      replace ca := z_in hM (by decide) ca
      obtain ⟨o2, ho, hf⟩ := m_calPE hf
      refine z_gcallVi (k := 6) (C := RX6) (T := TX6) (N := 2) (fl := zf_6) X hM rfl zc_6 ca (c_X6_size ho) gX11_type_X6_size rfl ⟨rfl, rfl⟩ hd_X6_size ⟨Nat.le_of_ble_eq_true rfl, Nat.le_of_ble_eq_true rfl⟩ rfl hl.1 rfl ⟨Nat.sub_le _ _, Nat.sub_le _ _⟩ (Nat.le_of_ble_eq_true rfl) dX11_type_15 (fun H locs hM => ?_)
      clear ho
      refine lv_iload_n hx hb dX11_type_18 rfl (lv_at hl 2 rfl) ?_
      refine lv_iadd hx hb dX11_type_19 ?_
      obtain ⟨v3, ev, hf⟩ := m_bndPE hf
      refine m_top ev ?_
      clear ev
      refine lv_sipush (v := (2000 : Int32)) hx hb dX11_type_20 (by decide) ?_
      refine lv_icmp_le (tgt := 28) hx hb dX11_type_23 (by decide) (fun cc1 => ?_) (fun cc1 => ?_)
      · replace hf := m_ifPT hf cc1
        refine lv_iconst (v := (0 : Int32)) hx hb dX11_type_28 (by decide) ?_
        refine lv_istore (lv' := [(4, .int (0 : Int32)), (0, .ref (zh y x0)), (1, .long x1), (3, .int x3)]) hx hb dX11_type_29 hl (by decide) rfl (fun ls hl => ?_)
        exact w_X11_type_31 X hret _ x0 x1 x3 (0 : Int32) _ _ _ _ _ _ hf hCT hM (lv_sub hl [1, 2, 3, 0] rfl)
      · replace hf := m_ifPF hf cc1
        exact w_X11_type_26 X hret hf hCT hM (lv_sub hl [] rfl)
noncomputable def g_X11_type (x0 : Nat) (x1 : Int64) (x3 : Int32) (S : ZS) (mc ms : Nat) (Pw : Int32 → ZS → Prop) : Prop := g_X11_type_0 Pw x0 x1 x3 S mc ms
theorem c_X11_type {l : Launch} {D : va_G} {y : Nat → ClassId} {x0 : Nat} {x1 : Int64} {x3 : Int32} {S : ZS} {kc kt : Nat} {Pw : Int32 → ZS → Prop} (hf : g_X11_type x0 x1 x3 S kc kt Pw) : zWi l yX11_type wsX11_type ({ frames := 2, cells := kc, slots := kt, locals := 82 } : Room) [.ref (zh y x0), .long x1, .int x3] D y S kc kt Pw :=
  z_wentI (own := RX11) (cc := cX11_type) (maxL := 6) (by decide) rfl rfl (Nat.le_of_ble_eq_true rfl) ⟨rfl, rfl⟩ (fun p e s m args below meth c A0 Q H locs ls X hret hM hl => w_X11_type_0 X hret hf ⟨Nat.le_refl _, Nat.le_refl _⟩ hM (lv_sub hl [0, 1, 2] rfl))
theorem hd_X11_cut : yX11_cut.cls = RX11 ∧ yX11_cut.cls ≠ "java/lang/invoke/MethodHandle" ∧ yX11_cut.cls ≠ "java/lang/invoke/VarHandle" ∧ (parseMethodDescriptor yX11_cut.desc).map (fun d => d.parameters.length) = some 1 := by decide +kernel
theorem fl_X11_cut_11_0 : Cond.fieldLink RX11 10 "MoveTexts" "text" "LMoveTexts$Row;" ∈ wsX11_cut := by decide +kernel
theorem hw_X11_cut_11 : ∀ w ∈ wsX110, w ∈ wsX11_cut := by decide +kernel
noncomputable def f_X11_cut_15 (S : ZS) : Option (Int32 × ZS) :=
  m_chk (vp_nar .boolean (0 : Int32) = (0 : Int32)) (some ((0 : Int32), S))

set_option maxRecDepth 100000 in
set_option maxHeartbeats 4000000 in
theorem w_X11_cut_15 {p : Program} {l : Launch} {e : Env} {s : State} {m : MethodId} {args : Array Value} {below : List Frame} {meth : Method} {c : Code} {Q : State → Prop} {D : va_G} {y : Nat → ClassId} {A0 : Nat → Prop} {o : Int32 × ZS} (X : CallFix p m c cX11_cut 2 s args wsX11_cut RX11) (hret : zRi p l e ({ frames := 1, cells := 0, slots := 0, locals := 21 } : Room) s m args below meth c Q cX11_cut D y A0 .boolean o) {S : ZS} {H : Heap} {locs : List Loc} {ls : Array Slot} (hf : f_X11_cut_15  S = some o) (hM : zH D y A0 s H locs S) (hl : lv_has ls 2 []) : W p l e ({ frames := 1, cells := 0, slots := 0, locals := 21 } : Room) s m args below meth c H locs 0 0 Q (F0 m 15 ls []) := by
  obtain ⟨hx, hb, hml, hown, hts⟩ := id X
  unfold f_X11_cut_15 at hf
  refine lv_iconst (v := (0 : Int32)) hx hb dX11_cut_15 (by decide) ?_
  obtain ⟨cd, hf⟩ := m_chkE hf
  cases hf
  exact hret H locs _ ls hM (m_nb cd) dX11_cut_16
noncomputable def f_X11_cut_0 (x0 : Nat) (x1 : Int32) (S : ZS) : Option (Int32 × ZS) :=
  m_if (x1 < 0) (
  f_X11_cut_15  S
  ) (
  m_chk (zK S x0 = 11) (
  m_cal (zP S 0 x0) (fun b1 =>
  m_chk (zK S b1 = 6) (
  m_cal (f_X6_size b1 S) (fun o2 =>
  m_if (x1 ≤ o2.1) (
  m_chk (zK o2.2 x0 = 11) (
  m_cal (zP o2.2 0 x0) (fun b3 =>
  m_chk (zK o2.2 b3 = 6) (
  m_cal (f_X6_keep b3 x1 o2.2) (fun o4 =>
  m_chk (vp_nar .boolean (1 : Int32) = (1 : Int32)) (some ((1 : Int32), o4.2))))))
  ) (
  f_X11_cut_15  o2.2
  )))))
  )

set_option maxRecDepth 100000 in
set_option maxHeartbeats 4000000 in
theorem w_X11_cut_0 {p : Program} {l : Launch} {e : Env} {s : State} {m : MethodId} {args : Array Value} {below : List Frame} {meth : Method} {c : Code} {Q : State → Prop} {D : va_G} {y : Nat → ClassId} {A0 : Nat → Prop} {o : Int32 × ZS} (X : CallFix p m c cX11_cut 2 s args wsX11_cut RX11) (hret : zRi p l e ({ frames := 1, cells := 0, slots := 0, locals := 21 } : Room) s m args below meth c Q cX11_cut D y A0 .boolean o) {x0 : Nat} {x1 : Int32} {S : ZS} {H : Heap} {locs : List Loc} {ls : Array Slot} (hf : f_X11_cut_0 x0 x1 S = some o) (hM : zH D y A0 s H locs S) (hl : lv_has ls 2 [(0, .ref (zh y x0)), (1, .int x1)]) : W p l e ({ frames := 1, cells := 0, slots := 0, locals := 21 } : Room) s m args below meth c H locs 0 0 Q (F0 m 0 ls []) := by
  obtain ⟨hx, hb, hml, hown, hts⟩ := id X
  unfold f_X11_cut_0 at hf
  refine lv_iload_n hx hb dX11_cut_0 rfl (lv_at hl 1 rfl) ?_
  refine lv_if_lt (tgt := 15) hx hb dX11_cut_1 (by decide) (fun cc1 => ?_) (fun cc1 => ?_)
  · replace hf := m_ifT hf cc1
    exact w_X11_cut_15 X hret hf hM (lv_sub hl [] rfl)
  · replace hf := m_ifF hf cc1
    refine lv_iload_n hx hb dX11_cut_4 rfl (lv_at hl 1 rfl) ?_
    refine lv_aload_n hx hb dX11_cut_5 rfl (lv_at hl 0 rfl) ?_
    obtain ⟨ca, hf⟩ := m_chkE hf
    replace ca := z_in hM (by decide) ca
    refine z_get (k := 11) (j := 0) (C := RX11) (T := TX11) (N := 10) (fl := zf_11) (v := va_rf ((zP S 0 x0).map (zh y))) X hw_X11_cut_11 hM rfl zc_11 ca (by decide) fl_X11_cut_11_0 rfl dX11_cut_6 ?_
    clear ca
    obtain ⟨b1, hb9, hf⟩ := m_calE hf
    refine z_topr hb9 ?_
    clear hb9
    obtain ⟨ca, hf⟩ := m_chkE hf
    replace ca := z_in hM (by decide) ca
    obtain ⟨o2, ho, hf⟩ := m_calE hf
    refine z_callVi (k := 6) (C := RX6) (T := TX6) (N := 2) (fl := zf_6) X hM rfl zc_6 ca (c_X6_size ho) gX11_cut_X6_size rfl ⟨rfl, rfl⟩ hd_X6_size ⟨Nat.le_of_ble_eq_true rfl, Nat.le_of_ble_eq_true rfl⟩ rfl hl.1 rfl (Nat.le_of_ble_eq_true rfl) dX11_cut_9 (fun H locs hM => ?_)
    clear ho
    refine lv_icmp_le (tgt := 17) hx hb dX11_cut_12 (by decide) (fun cc1 => ?_) (fun cc1 => ?_)
    · replace hf := m_ifT hf cc1
      refine lv_aload_n hx hb dX11_cut_17 rfl (lv_at hl 0 rfl) ?_
      obtain ⟨ca, hf⟩ := m_chkE hf
      replace ca := z_in hM (by decide) ca
      refine z_get (k := 11) (j := 0) (C := RX11) (T := TX11) (N := 10) (fl := zf_11) (v := va_rf ((zP o2.2 0 x0).map (zh y))) X hw_X11_cut_11 hM rfl zc_11 ca (by decide) fl_X11_cut_11_0 rfl dX11_cut_18 ?_
      clear ca
      obtain ⟨b3, hb9, hf⟩ := m_calE hf
      refine z_topr hb9 ?_
      clear hb9
      refine lv_iload_n hx hb dX11_cut_21 rfl (lv_at hl 1 rfl) ?_
      obtain ⟨ca, hf⟩ := m_chkE hf
      replace ca := z_in hM (by decide) ca
      obtain ⟨o4, ho, hf⟩ := m_calE hf
      refine z_callVv (k := 6) (C := RX6) (T := TX6) (N := 2) (fl := zf_6) X hM rfl zc_6 ca (c_X6_keep ho) gX11_cut_X6_keep rfl ⟨rfl, rfl⟩ hd_X6_keep ⟨Nat.le_of_ble_eq_true rfl, Nat.le_of_ble_eq_true rfl⟩ rfl hl.1 rfl (Nat.le_of_ble_eq_true rfl) dX11_cut_22 (fun H locs hM => ?_)
      clear ho
      refine lv_iconst (v := (1 : Int32)) hx hb dX11_cut_25 (by decide) ?_
      obtain ⟨cd, hf⟩ := m_chkE hf
      cases hf
      exact hret H locs _ ls hM (m_nb cd) dX11_cut_26
    · replace hf := m_ifF hf cc1
      exact w_X11_cut_15 X hret hf hM (lv_sub hl [] rfl)
noncomputable def f_X11_cut (x0 : Nat) (x1 : Int32) (S : ZS) : Option (Int32 × ZS) := f_X11_cut_0 x0 x1 S
theorem c_X11_cut {l : Launch} {D : va_G} {y : Nat → ClassId} {x0 : Nat} {x1 : Int32} {S : ZS} {o : Int32 × ZS} (hf : f_X11_cut x0 x1 S = some o) : zMi l yX11_cut wsX11_cut ({ frames := 1, cells := 0, slots := 0, locals := 21 } : Room) [.ref (zh y x0), .int x1] D y S o :=
  z_entryI (own := RX11) (cc := cX11_cut) (maxL := 2) (by decide) rfl rfl (Nat.le_of_ble_eq_true rfl) (fun p e s m args below meth c A0 Q H locs ls X hret hM hl => w_X11_cut_0 X hret hf hM (lv_sub hl [0, 1] rfl))
theorem hd_X11_read : yX11_read.cls = RX11 ∧ yX11_read.cls ≠ "java/lang/invoke/MethodHandle" ∧ yX11_read.cls ≠ "java/lang/invoke/VarHandle" ∧ (parseMethodDescriptor yX11_read.desc).map (fun d => d.parameters.length) = some 0 := by decide +kernel
theorem fl_X11_read_11_0 : Cond.fieldLink RX11 10 "MoveTexts" "text" "LMoveTexts$Row;" ∈ wsX11_read := by decide +kernel
theorem fl_X11_read_11_5 : Cond.fieldLink RX11 43 "MoveTexts" "gameReader" "LMoveTexts$GameReader;" ∈ wsX11_read := by decide +kernel
theorem fl_X11_read_11_7 : Cond.fieldLink RX11 57 "MoveTexts" "game" "LMoveTexts$Game;" ∈ wsX11_read := by decide +kernel
theorem fl_X11_read_11_8 : Cond.fieldLink RX11 61 "MoveTexts" "here" "I" ∈ wsX11_read := by decide +kernel
theorem fl_X11_read_11_9 : Cond.fieldLink RX11 68 "MoveTexts" "board" "LMoveTexts$Board;" ∈ wsX11_read := by decide +kernel
theorem hw_X11_read_11 : ∀ w ∈ wsX110, w ∈ wsX11_read := by decide +kernel
noncomputable def g_X11_read_41 (Pw : Int32 → ZS → Prop) (x0 : Nat) (S : ZS) (C T : Nat) : Prop :=
  m_chkQ (zK S x0 = 11) (
  m_calP (zP S 5 x0) (fun b1 =>
  m_chkQ (zK S b1 = 2) (
  m_calP (f_X2_fault b1 S) (fun o2 =>
  Pw o2.1 o2.2))))

set_option maxRecDepth 100000 in
set_option maxHeartbeats 4000000 in
theorem w_X11_read_41 {p : Program} {l : Launch} {e : Env} {s : State} {m : MethodId} {args : Array Value} {below : List Frame} {meth : Method} {c : Code} {Q : State → Prop} {D : va_G} {y : Nat → ClassId} {A0 : Nat → Prop} {kc kt : Nat} {Pw : Int32 → ZS → Prop} (X : CallFix p m c cX11_read 1 s args wsX11_read RX11) (hret : zQi p l e ({ frames := 10, cells := kc, slots := kt, locals := 226 } : Room) s m args below meth c Q cX11_read D y A0 .int Pw) {x0 : Nat} {S : ZS} {C T : Nat} {H : Heap} {locs : List Loc} {ls : Array Slot} (hf : g_X11_read_41 Pw x0 S C T) (hCT : C ≤ kc ∧ T ≤ kt) (hM : zH D y A0 s H locs S) (hl : lv_has ls 1 [(0, .ref (zh y x0))]) : W p l e ({ frames := 10, cells := kc, slots := kt, locals := 226 } : Room) s m args below meth c H locs (kc - C) (kt - T) Q (F0 m 41 ls []) := by
  obtain ⟨hx, hb, hml, hown, hts⟩ := id X
  unfold g_X11_read_41 at hf
  refine lv_aload_n hx hb dX11_read_41 rfl (lv_at hl 0 rfl) ?_
  obtain ⟨ca, hf⟩ := m_chkPE hf
  replace ca := z_in hM (by decide) ca
  refine z_get (k := 11) (j := 5) (C := RX11) (T := TX11) (N := 10) (fl := zf_11) (v := va_rf ((zP S 5 x0).map (zh y))) X hw_X11_read_11 hM rfl zc_11 ca (by decide) fl_X11_read_11_5 rfl dX11_read_42 ?_
  clear ca
  obtain ⟨b1, hb9, hf⟩ := m_calPE hf
  refine z_topr hb9 ?_
  clear hb9
  obtain ⟨ca, hf⟩ := m_chkPE hf
  replace ca := z_in hM (by decide) ca
  obtain ⟨o2, ho, hf⟩ := m_calPE hf
  refine z_gcallVi (k := 2) (C := RX2) (T := TX2) (N := 12) (fl := zf_2) X hM rfl zc_2 ca (c_X2_fault ho) gX11_read_X2_fault rfl ⟨rfl, rfl⟩ hd_X2_fault ⟨Nat.le_of_ble_eq_true rfl, Nat.le_of_ble_eq_true rfl⟩ rfl hl.1 rfl ⟨Nat.sub_le _ _, Nat.sub_le _ _⟩ (Nat.le_of_ble_eq_true rfl) dX11_read_45 (fun H locs hM => ?_)
  clear ho
  exact hret _ _ _ _ H locs _ ls hf hM rfl dX11_read_48
noncomputable def g_X11_read_0 (Pw : Int32 → ZS → Prop) (x0 : Nat) (S : ZS) (C T : Nat) : Prop :=
  m_chkQ (zK S x0 = 11) (
  m_calP (zP S 5 x0) (fun b1 =>
  m_chkQ (zK S x0 = 11) (
  m_calP (zP S 0 x0) (fun b2 =>
  m_chkQ (zK S b1 = 2) (
  m_calP (f_X2_begin b1 b2 S) (fun o3 =>
  m_chkQ (zK o3.2 x0 = 11) (
  m_calP (zP o3.2 5 x0) (fun b4 =>
  m_chkQ (zK o3.2 b4 = 2) (
  m_gal (C) (T) (fun mc ms Pw => g_X2_readHead b4 o3.2 mc ms Pw) (fun r6 S7 C8 T9 =>
  m_ifQ (r6 = 0) (
  g_X11_read_41 Pw x0 S7 (C8) (T9)
  ) (
  m_chkQ (zK S7 x0 = 11) (
  m_calP (zP S7 5 x0) (fun b10 =>
  m_chkQ (zK S7 b10 = 2) (
  m_gal (C8) (T9) (fun mc ms Pw => g_X2_readMoves b10 S7 mc ms Pw) (fun r12 S13 C14 T15 =>
  m_ifQ (r12 = 0) (
  g_X11_read_41 Pw x0 S13 (C14) (T15)
  ) (
  m_chkQ (zK S13 x0 = 11) (
  m_calP (zP S13 5 x0) (fun b16 =>
  m_chkQ (zK S13 b16 = 2) (
  m_gal (C14) (T15) (fun mc ms Pw => g_X2_readEnd b16 S13 mc ms Pw) (fun r18 S19 C20 T21 =>
  m_ifQ (r18 = 0) (
  g_X11_read_41 Pw x0 S19 (C20) (T21)
  ) (
  m_chkQ (zK S19 x0 = 11) (
  m_calP (zP S19 5 x0) (fun b22 =>
  m_chkQ (zK S19 x0 = 11) (
  m_calP (zP S19 7 x0) (fun b23 =>
  m_chkQ (zK S19 b22 = 2) (
  m_calP (f_X2_exchange b22 b23 S19) (fun o24 =>
  m_chkQ (zK o24.2 x0 = 11) (
  m_bndP (zsP o24.2 7 x0 (some o24.1)) (fun S25 =>
  m_chkQ (zK S25 x0 = 11) (
  m_calP (zP S25 0 x0) (fun b26 =>
  m_chkQ (zK S25 b26 = 6) (
  m_calP (f_X6_keep b26 (0 : Int32) S25) (fun o27 =>
  m_chkQ (zK o27.2 x0 = 11) (
  m_bndP (zsI o27.2 8 x0 (0 : Int32)) (fun S28 =>
  m_chkQ (zK S28 x0 = 11) (
  m_calP (zP S28 7 x0) (fun b29 =>
  m_chkQ (zK S28 x0 = 11) (
  m_calP (zP S28 9 x0) (fun b30 =>
  m_chkQ (zK S28 b29 = 1) (
  m_calP (f_X1_standAt b29 (0 : Int32) b30 S28) (fun o31 =>
  Pw (0 : Int32) o31.2))))))))))))))))))))
  )))))
  )))))
  )))))))))))

set_option maxRecDepth 100000 in
set_option maxHeartbeats 4000000 in
theorem w_X11_read_0 {p : Program} {l : Launch} {e : Env} {s : State} {m : MethodId} {args : Array Value} {below : List Frame} {meth : Method} {c : Code} {Q : State → Prop} {D : va_G} {y : Nat → ClassId} {A0 : Nat → Prop} {kc kt : Nat} {Pw : Int32 → ZS → Prop} (X : CallFix p m c cX11_read 1 s args wsX11_read RX11) (hret : zQi p l e ({ frames := 10, cells := kc, slots := kt, locals := 226 } : Room) s m args below meth c Q cX11_read D y A0 .int Pw) {x0 : Nat} {S : ZS} {C T : Nat} {H : Heap} {locs : List Loc} {ls : Array Slot} (hf : g_X11_read_0 Pw x0 S C T) (hCT : C ≤ kc ∧ T ≤ kt) (hM : zH D y A0 s H locs S) (hl : lv_has ls 1 [(0, .ref (zh y x0))]) : W p l e ({ frames := 10, cells := kc, slots := kt, locals := 226 } : Room) s m args below meth c H locs (kc - C) (kt - T) Q (F0 m 0 ls []) := by
  obtain ⟨hx, hb, hml, hown, hts⟩ := id X
  unfold g_X11_read_0 at hf
  refine lv_aload_n hx hb dX11_read_0 rfl (lv_at hl 0 rfl) ?_
  obtain ⟨ca, hf⟩ := m_chkPE hf
  replace ca := z_in hM (by decide) ca
  refine z_get (k := 11) (j := 5) (C := RX11) (T := TX11) (N := 10) (fl := zf_11) (v := va_rf ((zP S 5 x0).map (zh y))) X hw_X11_read_11 hM rfl zc_11 ca (by decide) fl_X11_read_11_5 rfl dX11_read_1 ?_
  clear ca
  obtain ⟨b1, hb9, hf⟩ := m_calPE hf
  refine z_topr hb9 ?_
  clear hb9
  refine lv_aload_n hx hb dX11_read_4 rfl (lv_at hl 0 rfl) ?_
  obtain ⟨ca, hf⟩ := m_chkPE hf
  replace ca := z_in hM (by decide) ca
  refine z_get (k := 11) (j := 0) (C := RX11) (T := TX11) (N := 10) (fl := zf_11) (v := va_rf ((zP S 0 x0).map (zh y))) X hw_X11_read_11 hM rfl zc_11 ca (by decide) fl_X11_read_11_0 rfl dX11_read_5 ?_
  clear ca
  obtain ⟨b2, hb9, hf⟩ := m_calPE hf
  refine z_topr hb9 ?_
  clear hb9
  obtain ⟨ca, hf⟩ := m_chkPE hf
  replace ca := z_in hM (by decide) ca
  obtain ⟨o3, ho, hf⟩ := m_calPE hf
  refine z_gcallVv (k := 2) (C := RX2) (T := TX2) (N := 12) (fl := zf_2) X hM rfl zc_2 ca (c_X2_begin ho) gX11_read_X2_begin rfl ⟨rfl, rfl⟩ hd_X2_begin ⟨Nat.le_of_ble_eq_true rfl, Nat.le_of_ble_eq_true rfl⟩ rfl hl.1 rfl ⟨Nat.sub_le _ _, Nat.sub_le _ _⟩ (Nat.le_of_ble_eq_true rfl) dX11_read_8 (fun H locs hM => ?_)
  clear ho
  refine lv_aload_n hx hb dX11_read_11 rfl (lv_at hl 0 rfl) ?_
  obtain ⟨ca, hf⟩ := m_chkPE hf
  replace ca := z_in hM (by decide) ca
  refine z_get (k := 11) (j := 5) (C := RX11) (T := TX11) (N := 10) (fl := zf_11) (v := va_rf ((zP o3.2 5 x0).map (zh y))) X hw_X11_read_11 hM rfl zc_11 ca (by decide) fl_X11_read_11_5 rfl dX11_read_12 ?_
  clear ca
  obtain ⟨b4, hb9, hf⟩ := m_calPE hf
  refine z_topr hb9 ?_
  clear hb9
  obtain ⟨ca, hf⟩ := m_chkPE hf
  replace ca := z_in hM (by decide) ca
  obtain ⟨mc, ms, hcm, ho⟩ := m_galE hf
  refine z_wcallVi (k := 2) (C := RX2) (T := TX2) (N := 12) (fl := zf_2) X hM rfl zc_2 ca (c_X2_readHead ho) gX11_read_X2_readHead rfl ⟨rfl, rfl⟩ ⟨by show kc - (C) + mc ≤ kc; omega, by show kt - (T) + ms ≤ kt; omega⟩ hd_X2_readHead ⟨Nat.le_of_ble_eq_true rfl, Nat.le_of_ble_eq_true rfl⟩ rfl hl.1 rfl (Nat.le_of_ble_eq_true rfl) dX11_read_15 (fun r6 S7 H locs hf hM => ?_)
  refine z_eqCS (c2 := kc - (C - mc)) (t2 := kt - (T - ms)) (by omega) (by omega) ?_
  replace hCT : C - mc ≤ kc ∧ T - ms ≤ kt := by omega
  generalize C - mc = C8 at hf hCT ⊢
  generalize T - ms = T9 at hf hCT ⊢
  clear ho hcm
  refine lv_if_eq (tgt := 41) hx hb dX11_read_18 (by decide) (fun cc1 => ?_) (fun cc1 => ?_)
  · replace hf := m_ifPT hf cc1
    exact w_X11_read_41 (x0 := x0) X hret hf hCT hM (lv_sub hl [0] rfl)
  · replace hf := m_ifPF hf cc1
    refine lv_aload_n hx hb dX11_read_21 rfl (lv_at hl 0 rfl) ?_
    obtain ⟨ca, hf⟩ := m_chkPE hf
    replace ca := z_in hM (by decide) ca
    refine z_get (k := 11) (j := 5) (C := RX11) (T := TX11) (N := 10) (fl := zf_11) (v := va_rf ((zP S7 5 x0).map (zh y))) X hw_X11_read_11 hM rfl zc_11 ca (by decide) fl_X11_read_11_5 rfl dX11_read_22 ?_
    clear ca
    obtain ⟨b10, hb9, hf⟩ := m_calPE hf
    refine z_topr hb9 ?_
    clear hb9
    obtain ⟨ca, hf⟩ := m_chkPE hf
    replace ca := z_in hM (by decide) ca
    obtain ⟨mc, ms, hcm, ho⟩ := m_galE hf
    refine z_wcallVi (k := 2) (C := RX2) (T := TX2) (N := 12) (fl := zf_2) X hM rfl zc_2 ca (c_X2_readMoves ho) gX11_read_X2_readMoves rfl ⟨rfl, rfl⟩ ⟨by show kc - (C8) + mc ≤ kc; omega, by show kt - (T9) + ms ≤ kt; omega⟩ hd_X2_readMoves ⟨Nat.le_of_ble_eq_true rfl, Nat.le_of_ble_eq_true rfl⟩ rfl hl.1 rfl (Nat.le_of_ble_eq_true rfl) dX11_read_25 (fun r12 S13 H locs hf hM => ?_)
    refine z_eqCS (c2 := kc - (C8 - mc)) (t2 := kt - (T9 - ms)) (by omega) (by omega) ?_
    replace hCT : C8 - mc ≤ kc ∧ T9 - ms ≤ kt := by omega
    generalize C8 - mc = C14 at hf hCT ⊢
    generalize T9 - ms = T15 at hf hCT ⊢
    clear ho hcm
    refine lv_if_eq (tgt := 41) hx hb dX11_read_28 (by decide) (fun cc1 => ?_) (fun cc1 => ?_)
    · replace hf := m_ifPT hf cc1
      exact w_X11_read_41 (x0 := x0) X hret hf hCT hM (lv_sub hl [0] rfl)
    · replace hf := m_ifPF hf cc1
      refine lv_aload_n hx hb dX11_read_31 rfl (lv_at hl 0 rfl) ?_
      obtain ⟨ca, hf⟩ := m_chkPE hf
      replace ca := z_in hM (by decide) ca
      refine z_get (k := 11) (j := 5) (C := RX11) (T := TX11) (N := 10) (fl := zf_11) (v := va_rf ((zP S13 5 x0).map (zh y))) X hw_X11_read_11 hM rfl zc_11 ca (by decide) fl_X11_read_11_5 rfl dX11_read_32 ?_
      clear ca
      obtain ⟨b16, hb9, hf⟩ := m_calPE hf
      refine z_topr hb9 ?_
      clear hb9
      obtain ⟨ca, hf⟩ := m_chkPE hf
      replace ca := z_in hM (by decide) ca
      obtain ⟨mc, ms, hcm, ho⟩ := m_galE hf
      refine z_wcallVi (k := 2) (C := RX2) (T := TX2) (N := 12) (fl := zf_2) X hM rfl zc_2 ca (c_X2_readEnd ho) gX11_read_X2_readEnd rfl ⟨rfl, rfl⟩ ⟨by show kc - (C14) + mc ≤ kc; omega, by show kt - (T15) + ms ≤ kt; omega⟩ hd_X2_readEnd ⟨Nat.le_of_ble_eq_true rfl, Nat.le_of_ble_eq_true rfl⟩ rfl hl.1 rfl (Nat.le_of_ble_eq_true rfl) dX11_read_35 (fun r18 S19 H locs hf hM => ?_)
      refine z_eqCS (c2 := kc - (C14 - mc)) (t2 := kt - (T15 - ms)) (by omega) (by omega) ?_
      replace hCT : C14 - mc ≤ kc ∧ T15 - ms ≤ kt := by omega
      generalize C14 - mc = C20 at hf hCT ⊢
      generalize T15 - ms = T21 at hf hCT ⊢
      clear ho hcm
      refine lv_if_ne (tgt := 49) hx hb dX11_read_38 (by decide) (fun cc1 => ?_) (fun cc1 => ?_)
      · replace hf := m_ifPF hf cc1
        refine lv_aload_n hx hb dX11_read_49 rfl (lv_at hl 0 rfl) ?_
        refine lv_aload_n hx hb dX11_read_50 rfl (lv_at hl 0 rfl) ?_
        obtain ⟨ca, hf⟩ := m_chkPE hf
        replace ca := z_in hM (by decide) ca
        refine z_get (k := 11) (j := 5) (C := RX11) (T := TX11) (N := 10) (fl := zf_11) (v := va_rf ((zP S19 5 x0).map (zh y))) X hw_X11_read_11 hM rfl zc_11 ca (by decide) fl_X11_read_11_5 rfl dX11_read_51 ?_
        clear ca
        obtain ⟨b22, hb9, hf⟩ := m_calPE hf
        refine z_topr hb9 ?_
        clear hb9
        refine lv_aload_n hx hb dX11_read_54 rfl (lv_at hl 0 rfl) ?_
        obtain ⟨ca, hf⟩ := m_chkPE hf
        replace ca := z_in hM (by decide) ca
        refine z_get (k := 11) (j := 7) (C := RX11) (T := TX11) (N := 10) (fl := zf_11) (v := va_rf ((zP S19 7 x0).map (zh y))) X hw_X11_read_11 hM rfl zc_11 ca (by decide) fl_X11_read_11_7 rfl dX11_read_55 ?_
        clear ca
        obtain ⟨b23, hb9, hf⟩ := m_calPE hf
        refine z_topr hb9 ?_
        clear hb9
        obtain ⟨ca, hf⟩ := m_chkPE hf
        replace ca := z_in hM (by decide) ca
        obtain ⟨o24, ho, hf⟩ := m_calPE hf
        refine z_gcallVr (k := 2) (C := RX2) (T := TX2) (N := 12) (fl := zf_2) X hM rfl zc_2 ca (c_X2_exchange ho) gX11_read_X2_exchange rfl ⟨rfl, rfl⟩ hd_X2_exchange ⟨Nat.le_of_ble_eq_true rfl, Nat.le_of_ble_eq_true rfl⟩ rfl hl.1 rfl ⟨Nat.sub_le _ _, Nat.sub_le _ _⟩ (Nat.le_of_ble_eq_true rfl) dX11_read_58 (fun H locs hM => ?_)
        clear ho
        obtain ⟨ca, hf⟩ := m_chkPE hf
        replace ca := z_in hM (by decide) ca
        refine z_putP (k := 11) (j := 7) (C := RX11) (T := TX11) (N := 10) (fl := zf_11) (ty := tyX11 7) X hw_X11_read_11 tyX11_ok nmX11 hM rfl zc_11 ca (by decide) fl_X11_read_11_7 rfl (tyX11_ok 7 (by decide)) rfl rfl zp_11_7 (Nat.le_of_ble_eq_true rfl) dX11_read_61 (fun H locs hM => ?_)
        clear ca
        obtain ⟨S25, ev, hf⟩ := m_bndPE hf
        replace hM := z_hS hM ev
        clear ev
        refine lv_aload_n hx hb dX11_read_64 rfl (lv_at hl 0 rfl) ?_
        obtain ⟨ca, hf⟩ := m_chkPE hf
        replace ca := z_in hM (by decide) ca
        refine z_get (k := 11) (j := 0) (C := RX11) (T := TX11) (N := 10) (fl := zf_11) (v := va_rf ((zP S25 0 x0).map (zh y))) X hw_X11_read_11 hM rfl zc_11 ca (by decide) fl_X11_read_11_0 rfl dX11_read_65 ?_
        clear ca
        obtain ⟨b26, hb9, hf⟩ := m_calPE hf
        refine z_topr hb9 ?_
        clear hb9
        refine lv_iconst (v := (0 : Int32)) hx hb dX11_read_68 (by decide) ?_
        obtain ⟨ca, hf⟩ := m_chkPE hf
        replace ca := z_in hM (by decide) ca
        obtain ⟨o27, ho, hf⟩ := m_calPE hf
        refine z_gcallVv (k := 6) (C := RX6) (T := TX6) (N := 2) (fl := zf_6) X hM rfl zc_6 ca (c_X6_keep ho) gX11_read_X6_keep rfl ⟨rfl, rfl⟩ hd_X6_keep ⟨Nat.le_of_ble_eq_true rfl, Nat.le_of_ble_eq_true rfl⟩ rfl hl.1 rfl ⟨Nat.sub_le _ _, Nat.sub_le _ _⟩ (Nat.le_of_ble_eq_true rfl) dX11_read_69 (fun H locs hM => ?_)
        clear ho
        refine lv_aload_n hx hb dX11_read_72 rfl (lv_at hl 0 rfl) ?_
        refine lv_iconst (v := (0 : Int32)) hx hb dX11_read_73 (by decide) ?_
        obtain ⟨ca, hf⟩ := m_chkPE hf
        replace ca := z_in hM (by decide) ca
        refine z_putI (k := 11) (j := 8) (C := RX11) (T := TX11) (N := 10) (fl := zf_11) (ty := .int) X hw_X11_read_11 tyX11_ok nmX11 hM rfl zc_11 ca (by decide) fl_X11_read_11_8 rfl (tyX11_ok 8 (by decide)) rfl rfl zi_11_8 (Nat.le_of_ble_eq_true rfl) dX11_read_74 (fun H locs hM => ?_)
        clear ca
        obtain ⟨S28, ev, hf⟩ := m_bndPE hf
        replace hM := z_hS hM ev
        clear ev
        refine lv_aload_n hx hb dX11_read_77 rfl (lv_at hl 0 rfl) ?_
        obtain ⟨ca, hf⟩ := m_chkPE hf
        replace ca := z_in hM (by decide) ca
        refine z_get (k := 11) (j := 7) (C := RX11) (T := TX11) (N := 10) (fl := zf_11) (v := va_rf ((zP S28 7 x0).map (zh y))) X hw_X11_read_11 hM rfl zc_11 ca (by decide) fl_X11_read_11_7 rfl dX11_read_78 ?_
        clear ca
        obtain ⟨b29, hb9, hf⟩ := m_calPE hf
        refine z_topr hb9 ?_
        clear hb9
        refine lv_iconst (v := (0 : Int32)) hx hb dX11_read_81 (by decide) ?_
        refine lv_aload_n hx hb dX11_read_82 rfl (lv_at hl 0 rfl) ?_
        obtain ⟨ca, hf⟩ := m_chkPE hf
        replace ca := z_in hM (by decide) ca
        refine z_get (k := 11) (j := 9) (C := RX11) (T := TX11) (N := 10) (fl := zf_11) (v := va_rf ((zP S28 9 x0).map (zh y))) X hw_X11_read_11 hM rfl zc_11 ca (by decide) fl_X11_read_11_9 rfl dX11_read_83 ?_
        clear ca
        obtain ⟨b30, hb9, hf⟩ := m_calPE hf
        refine z_topr hb9 ?_
        clear hb9
        obtain ⟨ca, hf⟩ := m_chkPE hf
        replace ca := z_in hM (by decide) ca
        obtain ⟨o31, ho, hf⟩ := m_calPE hf
        refine z_gcallVv (k := 1) (C := RX1) (T := TX1) (N := 8) (fl := zf_1) X hM rfl zc_1 ca (c_X1_standAt ho) gX11_read_X1_standAt rfl ⟨rfl, rfl⟩ hd_X1_standAt ⟨Nat.le_of_ble_eq_true rfl, Nat.le_of_ble_eq_true rfl⟩ rfl hl.1 rfl ⟨Nat.sub_le _ _, Nat.sub_le _ _⟩ (Nat.le_of_ble_eq_true rfl) dX11_read_86 (fun H locs hM => ?_)
        clear ho
        refine lv_iconst (v := (0 : Int32)) hx hb dX11_read_89 (by decide) ?_
        exact hret _ _ _ _ H locs _ ls hf hM rfl dX11_read_90
      · replace hf := m_ifPT hf cc1
        exact w_X11_read_41 (x0 := x0) X hret hf hCT hM (lv_sub hl [0] rfl)
noncomputable def g_X11_read (x0 : Nat) (S : ZS) (mc ms : Nat) (Pw : Int32 → ZS → Prop) : Prop := g_X11_read_0 Pw x0 S mc ms
theorem c_X11_read {l : Launch} {D : va_G} {y : Nat → ClassId} {x0 : Nat} {S : ZS} {kc kt : Nat} {Pw : Int32 → ZS → Prop} (hf : g_X11_read x0 S kc kt Pw) : zWi l yX11_read wsX11_read ({ frames := 10, cells := kc, slots := kt, locals := 226 } : Room) [.ref (zh y x0)] D y S kc kt Pw :=
  z_wentI (own := RX11) (cc := cX11_read) (maxL := 1) (by decide) rfl rfl (Nat.le_of_ble_eq_true rfl) ⟨rfl, rfl⟩ (fun p e s m args below meth c A0 Q H locs ls X hret hM hl => w_X11_read_0 X hret hf ⟨Nat.le_refl _, Nat.le_refl _⟩ hM (lv_sub hl [0] rfl))
theorem hd_X11_find : yX11_find.cls = RX11 ∧ yX11_find.cls ≠ "java/lang/invoke/MethodHandle" ∧ yX11_find.cls ≠ "java/lang/invoke/VarHandle" ∧ (parseMethodDescriptor yX11_find.desc).map (fun d => d.parameters.length) = some 0 := by decide +kernel
theorem fl_X11_find_11_0 : Cond.fieldLink RX11 10 "MoveTexts" "text" "LMoveTexts$Row;" ∈ wsX11_find := by decide +kernel
theorem fl_X11_find_11_3 : Cond.fieldLink RX11 29 "MoveTexts" "signReader" "LMoveTexts$SignReader;" ∈ wsX11_find := by decide +kernel
theorem fl_X11_find_11_9 : Cond.fieldLink RX11 68 "MoveTexts" "board" "LMoveTexts$Board;" ∈ wsX11_find := by decide +kernel
theorem hw_X11_find_11 : ∀ w ∈ wsX110, w ∈ wsX11_find := by decide +kernel
noncomputable def g_X11_find_0 (Pw : Int32 → ZS → Prop) (x0 : Nat) (S : ZS) (C T : Nat) : Prop :=
  m_chkQ (zK S x0 = 11) (
  m_calP (zP S 3 x0) (fun b1 =>
  m_chkQ (zK S x0 = 11) (
  m_calP (zP S 9 x0) (fun b2 =>
  m_chkQ (zK S x0 = 11) (
  m_calP (zP S 0 x0) (fun b3 =>
  m_chkQ (zK S x0 = 11) (
  m_calP (zP S 0 x0) (fun b4 =>
  m_chkQ (zK S b4 = 6) (
  m_calP (f_X6_size b4 S) (fun o5 =>
  m_chkQ (zK o5.2 b1 = 8) (
  m_gal (C) (T) (fun mc ms Pw => g_X8_matched b1 b2 b3 (0 : Int32) o5.1 o5.2 mc ms Pw) (fun r7 S8 C9 T10 =>
  Pw r7 S8))))))))))))

set_option maxRecDepth 100000 in
set_option maxHeartbeats 4000000 in
theorem w_X11_find_0 {p : Program} {l : Launch} {e : Env} {s : State} {m : MethodId} {args : Array Value} {below : List Frame} {meth : Method} {c : Code} {Q : State → Prop} {D : va_G} {y : Nat → ClassId} {A0 : Nat → Prop} {kc kt : Nat} {Pw : Int32 → ZS → Prop} (X : CallFix p m c cX11_find 1 s args wsX11_find RX11) (hret : zQi p l e ({ frames := 8, cells := kc, slots := kt, locals := 178 } : Room) s m args below meth c Q cX11_find D y A0 .int Pw) {x0 : Nat} {S : ZS} {C T : Nat} {H : Heap} {locs : List Loc} {ls : Array Slot} (hf : g_X11_find_0 Pw x0 S C T) (hCT : C ≤ kc ∧ T ≤ kt) (hM : zH D y A0 s H locs S) (hl : lv_has ls 1 [(0, .ref (zh y x0))]) : W p l e ({ frames := 8, cells := kc, slots := kt, locals := 178 } : Room) s m args below meth c H locs (kc - C) (kt - T) Q (F0 m 0 ls []) := by
  obtain ⟨hx, hb, hml, hown, hts⟩ := id X
  unfold g_X11_find_0 at hf
  refine lv_aload_n hx hb dX11_find_0 rfl (lv_at hl 0 rfl) ?_
  obtain ⟨ca, hf⟩ := m_chkPE hf
  replace ca := z_in hM (by decide) ca
  refine z_get (k := 11) (j := 3) (C := RX11) (T := TX11) (N := 10) (fl := zf_11) (v := va_rf ((zP S 3 x0).map (zh y))) X hw_X11_find_11 hM rfl zc_11 ca (by decide) fl_X11_find_11_3 rfl dX11_find_1 ?_
  clear ca
  obtain ⟨b1, hb9, hf⟩ := m_calPE hf
  refine z_topr hb9 ?_
  clear hb9
  refine lv_aload_n hx hb dX11_find_4 rfl (lv_at hl 0 rfl) ?_
  obtain ⟨ca, hf⟩ := m_chkPE hf
  replace ca := z_in hM (by decide) ca
  refine z_get (k := 11) (j := 9) (C := RX11) (T := TX11) (N := 10) (fl := zf_11) (v := va_rf ((zP S 9 x0).map (zh y))) X hw_X11_find_11 hM rfl zc_11 ca (by decide) fl_X11_find_11_9 rfl dX11_find_5 ?_
  clear ca
  obtain ⟨b2, hb9, hf⟩ := m_calPE hf
  refine z_topr hb9 ?_
  clear hb9
  refine lv_aload_n hx hb dX11_find_8 rfl (lv_at hl 0 rfl) ?_
  obtain ⟨ca, hf⟩ := m_chkPE hf
  replace ca := z_in hM (by decide) ca
  refine z_get (k := 11) (j := 0) (C := RX11) (T := TX11) (N := 10) (fl := zf_11) (v := va_rf ((zP S 0 x0).map (zh y))) X hw_X11_find_11 hM rfl zc_11 ca (by decide) fl_X11_find_11_0 rfl dX11_find_9 ?_
  clear ca
  obtain ⟨b3, hb9, hf⟩ := m_calPE hf
  refine z_topr hb9 ?_
  clear hb9
  refine lv_iconst (v := (0 : Int32)) hx hb dX11_find_12 (by decide) ?_
  refine lv_aload_n hx hb dX11_find_13 rfl (lv_at hl 0 rfl) ?_
  obtain ⟨ca, hf⟩ := m_chkPE hf
  replace ca := z_in hM (by decide) ca
  refine z_get (k := 11) (j := 0) (C := RX11) (T := TX11) (N := 10) (fl := zf_11) (v := va_rf ((zP S 0 x0).map (zh y))) X hw_X11_find_11 hM rfl zc_11 ca (by decide) fl_X11_find_11_0 rfl dX11_find_14 ?_
  clear ca
  obtain ⟨b4, hb9, hf⟩ := m_calPE hf
  refine z_topr hb9 ?_
  clear hb9
  obtain ⟨ca, hf⟩ := m_chkPE hf
  replace ca := z_in hM (by decide) ca
  obtain ⟨o5, ho, hf⟩ := m_calPE hf
  refine z_gcallVi (k := 6) (C := RX6) (T := TX6) (N := 2) (fl := zf_6) X hM rfl zc_6 ca (c_X6_size ho) gX11_find_X6_size rfl ⟨rfl, rfl⟩ hd_X6_size ⟨Nat.le_of_ble_eq_true rfl, Nat.le_of_ble_eq_true rfl⟩ rfl hl.1 rfl ⟨Nat.sub_le _ _, Nat.sub_le _ _⟩ (Nat.le_of_ble_eq_true rfl) dX11_find_17 (fun H locs hM => ?_)
  clear ho
  obtain ⟨ca, hf⟩ := m_chkPE hf
  replace ca := z_in hM (by decide) ca
  obtain ⟨mc, ms, hcm, ho⟩ := m_galE hf
  refine z_wcallVi (k := 8) (C := RX8) (T := TX8) (N := 12) (fl := zf_8) X hM rfl zc_8 ca (c_X8_matched ho) gX11_find_X8_matched rfl ⟨rfl, rfl⟩ ⟨by show kc - (C) + mc ≤ kc; omega, by show kt - (T) + ms ≤ kt; omega⟩ hd_X8_matched ⟨Nat.le_of_ble_eq_true rfl, Nat.le_of_ble_eq_true rfl⟩ rfl hl.1 rfl (Nat.le_of_ble_eq_true rfl) dX11_find_20 (fun r7 S8 H locs hf hM => ?_)
  refine z_eqCS (c2 := kc - (C - mc)) (t2 := kt - (T - ms)) (by omega) (by omega) ?_
  replace hCT : C - mc ≤ kc ∧ T - ms ≤ kt := by omega
  generalize C - mc = C9 at hf hCT ⊢
  generalize T - ms = T10 at hf hCT ⊢
  clear ho hcm
  exact hret _ _ _ _ H locs _ ls hf hM rfl dX11_find_23
noncomputable def g_X11_find (x0 : Nat) (S : ZS) (mc ms : Nat) (Pw : Int32 → ZS → Prop) : Prop := g_X11_find_0 Pw x0 S mc ms
theorem c_X11_find {l : Launch} {D : va_G} {y : Nat → ClassId} {x0 : Nat} {S : ZS} {kc kt : Nat} {Pw : Int32 → ZS → Prop} (hf : g_X11_find x0 S kc kt Pw) : zWi l yX11_find wsX11_find ({ frames := 8, cells := kc, slots := kt, locals := 178 } : Room) [.ref (zh y x0)] D y S kc kt Pw :=
  z_wentI (own := RX11) (cc := cX11_find) (maxL := 1) (by decide) rfl rfl (Nat.le_of_ble_eq_true rfl) ⟨rfl, rfl⟩ (fun p e s m args below meth c A0 Q H locs ls X hret hM hl => w_X11_find_0 X hret hf ⟨Nat.le_refl _, Nat.le_refl _⟩ hM (lv_sub hl [0] rfl))
theorem hd_X11_out : yX11_out.cls = RX11 ∧ yX11_out.cls ≠ "java/lang/invoke/MethodHandle" ∧ yX11_out.cls ≠ "java/lang/invoke/VarHandle" ∧ (parseMethodDescriptor yX11_out.desc).map (fun d => d.parameters.length) = some 1 := by decide +kernel
theorem fl_X11_out_11_1 : Cond.fieldLink RX11 16 "MoveTexts" "out" "LMoveTexts$Row;" ∈ wsX11_out := by decide +kernel
theorem hw_X11_out_11 : ∀ w ∈ wsX110, w ∈ wsX11_out := by decide +kernel
noncomputable def f_X11_out_0 (x0 : Nat) (x1 : Int32) (S : ZS) : Option (Int32 × ZS) :=
  m_chk (zK S x0 = 11) (
  m_cal (zP S 1 x0) (fun b1 =>
  m_chk (zK S b1 = 6) (
  m_cal (f_X6_at b1 x1 S) (fun o2 =>
  some (o2.1, o2.2)))))

set_option maxRecDepth 100000 in
set_option maxHeartbeats 4000000 in
theorem w_X11_out_0 {p : Program} {l : Launch} {e : Env} {s : State} {m : MethodId} {args : Array Value} {below : List Frame} {meth : Method} {c : Code} {Q : State → Prop} {D : va_G} {y : Nat → ClassId} {A0 : Nat → Prop} {o : Int32 × ZS} (X : CallFix p m c cX11_out 2 s args wsX11_out RX11) (hret : zRi p l e ({ frames := 1, cells := 0, slots := 0, locals := 21 } : Room) s m args below meth c Q cX11_out D y A0 .int o) {x0 : Nat} {x1 : Int32} {S : ZS} {H : Heap} {locs : List Loc} {ls : Array Slot} (hf : f_X11_out_0 x0 x1 S = some o) (hM : zH D y A0 s H locs S) (hl : lv_has ls 2 [(0, .ref (zh y x0)), (1, .int x1)]) : W p l e ({ frames := 1, cells := 0, slots := 0, locals := 21 } : Room) s m args below meth c H locs 0 0 Q (F0 m 0 ls []) := by
  obtain ⟨hx, hb, hml, hown, hts⟩ := id X
  unfold f_X11_out_0 at hf
  refine lv_aload_n hx hb dX11_out_0 rfl (lv_at hl 0 rfl) ?_
  obtain ⟨ca, hf⟩ := m_chkE hf
  replace ca := z_in hM (by decide) ca
  refine z_get (k := 11) (j := 1) (C := RX11) (T := TX11) (N := 10) (fl := zf_11) (v := va_rf ((zP S 1 x0).map (zh y))) X hw_X11_out_11 hM rfl zc_11 ca (by decide) fl_X11_out_11_1 rfl dX11_out_1 ?_
  clear ca
  obtain ⟨b1, hb9, hf⟩ := m_calE hf
  refine z_topr hb9 ?_
  clear hb9
  refine lv_iload_n hx hb dX11_out_4 rfl (lv_at hl 1 rfl) ?_
  obtain ⟨ca, hf⟩ := m_chkE hf
  replace ca := z_in hM (by decide) ca
  obtain ⟨o2, ho, hf⟩ := m_calE hf
  refine z_callVi (k := 6) (C := RX6) (T := TX6) (N := 2) (fl := zf_6) X hM rfl zc_6 ca (c_X6_at ho) gX11_out_X6_at rfl ⟨rfl, rfl⟩ hd_X6_at ⟨Nat.le_of_ble_eq_true rfl, Nat.le_of_ble_eq_true rfl⟩ rfl hl.1 rfl (Nat.le_of_ble_eq_true rfl) dX11_out_5 (fun H locs hM => ?_)
  clear ho
  cases hf
  exact hret H locs _ ls hM rfl dX11_out_8
noncomputable def f_X11_out (x0 : Nat) (x1 : Int32) (S : ZS) : Option (Int32 × ZS) := f_X11_out_0 x0 x1 S
theorem c_X11_out {l : Launch} {D : va_G} {y : Nat → ClassId} {x0 : Nat} {x1 : Int32} {S : ZS} {o : Int32 × ZS} (hf : f_X11_out x0 x1 S = some o) : zMi l yX11_out wsX11_out ({ frames := 1, cells := 0, slots := 0, locals := 21 } : Room) [.ref (zh y x0), .int x1] D y S o :=
  z_entryI (own := RX11) (cc := cX11_out) (maxL := 2) (by decide) rfl rfl (Nat.le_of_ble_eq_true rfl) (fun p e s m args below meth c A0 Q H locs ls X hret hM hl => w_X11_out_0 X hret hf hM (lv_sub hl [0, 1] rfl))
theorem hd_X11_nodes : yX11_nodes.cls = RX11 ∧ yX11_nodes.cls ≠ "java/lang/invoke/MethodHandle" ∧ yX11_nodes.cls ≠ "java/lang/invoke/VarHandle" ∧ (parseMethodDescriptor yX11_nodes.desc).map (fun d => d.parameters.length) = some 0 := by decide +kernel
theorem fl_X11_nodes_11_7 : Cond.fieldLink RX11 57 "MoveTexts" "game" "LMoveTexts$Game;" ∈ wsX11_nodes := by decide +kernel
theorem fl_X11_nodes_1_3 : Cond.fieldLink RX11 158 "MoveTexts$Game" "greatest" "I" ∈ wsX11_nodes := by decide +kernel
theorem hw_X11_nodes_1 : ∀ w ∈ wsX10, w ∈ wsX11_nodes := by decide +kernel
theorem hw_X11_nodes_11 : ∀ w ∈ wsX110, w ∈ wsX11_nodes := by decide +kernel
noncomputable def f_X11_nodes_0 (x0 : Nat) (S : ZS) : Option (Int32 × ZS) :=
  m_chk (zK S x0 = 11) (
  m_cal (zP S 7 x0) (fun b1 =>
  m_chk (zK S b1 = 1) (
  some ((zI S 3 b1), S))))

set_option maxRecDepth 100000 in
set_option maxHeartbeats 4000000 in
theorem w_X11_nodes_0 {p : Program} {l : Launch} {e : Env} {s : State} {m : MethodId} {args : Array Value} {below : List Frame} {meth : Method} {c : Code} {Q : State → Prop} {D : va_G} {y : Nat → ClassId} {A0 : Nat → Prop} {o : Int32 × ZS} (X : CallFix p m c cX11_nodes 1 s args wsX11_nodes RX11) (hret : zRi p l e ({ frames := 0, cells := 0, slots := 0, locals := 0 } : Room) s m args below meth c Q cX11_nodes D y A0 .int o) {x0 : Nat} {S : ZS} {H : Heap} {locs : List Loc} {ls : Array Slot} (hf : f_X11_nodes_0 x0 S = some o) (hM : zH D y A0 s H locs S) (hl : lv_has ls 1 [(0, .ref (zh y x0))]) : W p l e ({ frames := 0, cells := 0, slots := 0, locals := 0 } : Room) s m args below meth c H locs 0 0 Q (F0 m 0 ls []) := by
  obtain ⟨hx, hb, hml, hown, hts⟩ := id X
  unfold f_X11_nodes_0 at hf
  refine lv_aload_n hx hb dX11_nodes_0 rfl (lv_at hl 0 rfl) ?_
  obtain ⟨ca, hf⟩ := m_chkE hf
  replace ca := z_in hM (by decide) ca
  refine z_get (k := 11) (j := 7) (C := RX11) (T := TX11) (N := 10) (fl := zf_11) (v := va_rf ((zP S 7 x0).map (zh y))) X hw_X11_nodes_11 hM rfl zc_11 ca (by decide) fl_X11_nodes_11_7 rfl dX11_nodes_1 ?_
  clear ca
  obtain ⟨b1, hb9, hf⟩ := m_calE hf
  refine z_topr hb9 ?_
  clear hb9
  obtain ⟨ca, hf⟩ := m_chkE hf
  replace ca := z_in hM (by decide) ca
  refine z_get (k := 1) (j := 3) (C := RX1) (T := TX1) (N := 8) (fl := zf_1) (v := .int (zI S 3 b1)) X hw_X11_nodes_1 hM rfl zc_1 ca (by decide) fl_X11_nodes_1_3 rfl dX11_nodes_4 ?_
  clear ca
  cases hf
  exact hret H locs _ ls hM rfl dX11_nodes_7
noncomputable def f_X11_nodes (x0 : Nat) (S : ZS) : Option (Int32 × ZS) := f_X11_nodes_0 x0 S
theorem c_X11_nodes {l : Launch} {D : va_G} {y : Nat → ClassId} {x0 : Nat} {S : ZS} {o : Int32 × ZS} (hf : f_X11_nodes x0 S = some o) : zMi l yX11_nodes wsX11_nodes ({ frames := 0, cells := 0, slots := 0, locals := 0 } : Room) [.ref (zh y x0)] D y S o :=
  z_entryI (own := RX11) (cc := cX11_nodes) (maxL := 1) (by decide) rfl rfl (Nat.le_of_ble_eq_true rfl) (fun p e s m args below meth c A0 Q H locs ls X hret hM hl => w_X11_nodes_0 X hret hf hM (lv_sub hl [0] rfl))
theorem hd_X11_here : yX11_here.cls = RX11 ∧ yX11_here.cls ≠ "java/lang/invoke/MethodHandle" ∧ yX11_here.cls ≠ "java/lang/invoke/VarHandle" ∧ (parseMethodDescriptor yX11_here.desc).map (fun d => d.parameters.length) = some 0 := by decide +kernel
theorem fl_X11_here_11_8 : Cond.fieldLink RX11 61 "MoveTexts" "here" "I" ∈ wsX11_here := by decide +kernel
theorem hw_X11_here_11 : ∀ w ∈ wsX110, w ∈ wsX11_here := by decide +kernel
noncomputable def f_X11_here_0 (x0 : Nat) (S : ZS) : Option (Int32 × ZS) :=
  m_chk (zK S x0 = 11) (
  some ((zI S 8 x0), S))

set_option maxRecDepth 100000 in
set_option maxHeartbeats 4000000 in
theorem w_X11_here_0 {p : Program} {l : Launch} {e : Env} {s : State} {m : MethodId} {args : Array Value} {below : List Frame} {meth : Method} {c : Code} {Q : State → Prop} {D : va_G} {y : Nat → ClassId} {A0 : Nat → Prop} {o : Int32 × ZS} (X : CallFix p m c cX11_here 1 s args wsX11_here RX11) (hret : zRi p l e ({ frames := 0, cells := 0, slots := 0, locals := 0 } : Room) s m args below meth c Q cX11_here D y A0 .int o) {x0 : Nat} {S : ZS} {H : Heap} {locs : List Loc} {ls : Array Slot} (hf : f_X11_here_0 x0 S = some o) (hM : zH D y A0 s H locs S) (hl : lv_has ls 1 [(0, .ref (zh y x0))]) : W p l e ({ frames := 0, cells := 0, slots := 0, locals := 0 } : Room) s m args below meth c H locs 0 0 Q (F0 m 0 ls []) := by
  obtain ⟨hx, hb, hml, hown, hts⟩ := id X
  unfold f_X11_here_0 at hf
  refine lv_aload_n hx hb dX11_here_0 rfl (lv_at hl 0 rfl) ?_
  obtain ⟨ca, hf⟩ := m_chkE hf
  replace ca := z_in hM (by decide) ca
  refine z_get (k := 11) (j := 8) (C := RX11) (T := TX11) (N := 10) (fl := zf_11) (v := .int (zI S 8 x0)) X hw_X11_here_11 hM rfl zc_11 ca (by decide) fl_X11_here_11_8 rfl dX11_here_1 ?_
  clear ca
  cases hf
  exact hret H locs _ ls hM rfl dX11_here_4
noncomputable def f_X11_here (x0 : Nat) (S : ZS) : Option (Int32 × ZS) := f_X11_here_0 x0 S
theorem c_X11_here {l : Launch} {D : va_G} {y : Nat → ClassId} {x0 : Nat} {S : ZS} {o : Int32 × ZS} (hf : f_X11_here x0 S = some o) : zMi l yX11_here wsX11_here ({ frames := 0, cells := 0, slots := 0, locals := 0 } : Room) [.ref (zh y x0)] D y S o :=
  z_entryI (own := RX11) (cc := cX11_here) (maxL := 1) (by decide) rfl rfl (Nat.le_of_ble_eq_true rfl) (fun p e s m args below meth c A0 Q H locs ls X hret hM hl => w_X11_here_0 X hret hf hM (lv_sub hl [0] rfl))
theorem hd_X11_move : yX11_move.cls = RX11 ∧ yX11_move.cls ≠ "java/lang/invoke/MethodHandle" ∧ yX11_move.cls ≠ "java/lang/invoke/VarHandle" ∧ (parseMethodDescriptor yX11_move.desc).map (fun d => d.parameters.length) = some 1 := by decide +kernel
theorem fl_X11_move_11_2 : Cond.fieldLink RX11 22 "MoveTexts" "rules" "LMoveTexts$Rules;" ∈ wsX11_move := by decide +kernel
theorem fl_X11_move_11_9 : Cond.fieldLink RX11 68 "MoveTexts" "board" "LMoveTexts$Board;" ∈ wsX11_move := by decide +kernel
theorem hw_X11_move_11 : ∀ w ∈ wsX110, w ∈ wsX11_move := by decide +kernel
noncomputable def f_X11_move_0 (x0 : Nat) (x1 : Int32) (S : ZS) : Option (Int32 × ZS) :=
  m_chk (zK S x0 = 11) (
  m_cal (zP S 2 x0) (fun b1 =>
  m_chk (zK S x0 = 11) (
  m_cal (zP S 9 x0) (fun b2 =>
  m_chk (zK S b1 = 7) (
  m_cal (f_X7_legalMove b1 b2 x1 S) (fun o3 =>
  some (o3.1, o3.2)))))))

set_option maxRecDepth 100000 in
set_option maxHeartbeats 4000000 in
theorem w_X11_move_0 {p : Program} {l : Launch} {e : Env} {s : State} {m : MethodId} {args : Array Value} {below : List Frame} {meth : Method} {c : Code} {Q : State → Prop} {D : va_G} {y : Nat → ClassId} {A0 : Nat → Prop} {o : Int32 × ZS} (X : CallFix p m c cX11_move 2 s args wsX11_move RX11) (hret : zRi p l e ({ frames := 4, cells := 0, slots := 0, locals := 133 } : Room) s m args below meth c Q cX11_move D y A0 .int o) {x0 : Nat} {x1 : Int32} {S : ZS} {H : Heap} {locs : List Loc} {ls : Array Slot} (hf : f_X11_move_0 x0 x1 S = some o) (hM : zH D y A0 s H locs S) (hl : lv_has ls 2 [(0, .ref (zh y x0)), (1, .int x1)]) : W p l e ({ frames := 4, cells := 0, slots := 0, locals := 133 } : Room) s m args below meth c H locs 0 0 Q (F0 m 0 ls []) := by
  obtain ⟨hx, hb, hml, hown, hts⟩ := id X
  unfold f_X11_move_0 at hf
  refine lv_aload_n hx hb dX11_move_0 rfl (lv_at hl 0 rfl) ?_
  obtain ⟨ca, hf⟩ := m_chkE hf
  replace ca := z_in hM (by decide) ca
  refine z_get (k := 11) (j := 2) (C := RX11) (T := TX11) (N := 10) (fl := zf_11) (v := va_rf ((zP S 2 x0).map (zh y))) X hw_X11_move_11 hM rfl zc_11 ca (by decide) fl_X11_move_11_2 rfl dX11_move_1 ?_
  clear ca
  obtain ⟨b1, hb9, hf⟩ := m_calE hf
  refine z_topr hb9 ?_
  clear hb9
  refine lv_aload_n hx hb dX11_move_4 rfl (lv_at hl 0 rfl) ?_
  obtain ⟨ca, hf⟩ := m_chkE hf
  replace ca := z_in hM (by decide) ca
  refine z_get (k := 11) (j := 9) (C := RX11) (T := TX11) (N := 10) (fl := zf_11) (v := va_rf ((zP S 9 x0).map (zh y))) X hw_X11_move_11 hM rfl zc_11 ca (by decide) fl_X11_move_11_9 rfl dX11_move_5 ?_
  clear ca
  obtain ⟨b2, hb9, hf⟩ := m_calE hf
  refine z_topr hb9 ?_
  clear hb9
  refine lv_iload_n hx hb dX11_move_8 rfl (lv_at hl 1 rfl) ?_
  obtain ⟨ca, hf⟩ := m_chkE hf
  replace ca := z_in hM (by decide) ca
  obtain ⟨o3, ho, hf⟩ := m_calE hf
  refine z_callVi (k := 7) (C := RX7) (T := TX7) (N := 2) (fl := zf_7) X hM rfl zc_7 ca (c_X7_legalMove ho) gX11_move_X7_legalMove rfl ⟨rfl, rfl⟩ hd_X7_legalMove ⟨Nat.le_of_ble_eq_true rfl, Nat.le_of_ble_eq_true rfl⟩ rfl hl.1 rfl (Nat.le_of_ble_eq_true rfl) dX11_move_9 (fun H locs hM => ?_)
  clear ho
  cases hf
  exact hret H locs _ ls hM rfl dX11_move_12
noncomputable def f_X11_move (x0 : Nat) (x1 : Int32) (S : ZS) : Option (Int32 × ZS) := f_X11_move_0 x0 x1 S
theorem c_X11_move {l : Launch} {D : va_G} {y : Nat → ClassId} {x0 : Nat} {x1 : Int32} {S : ZS} {o : Int32 × ZS} (hf : f_X11_move x0 x1 S = some o) : zMi l yX11_move wsX11_move ({ frames := 4, cells := 0, slots := 0, locals := 133 } : Room) [.ref (zh y x0), .int x1] D y S o :=
  z_entryI (own := RX11) (cc := cX11_move) (maxL := 2) (by decide) rfl rfl (Nat.le_of_ble_eq_true rfl) (fun p e s m args below meth c A0 Q H locs ls X hret hM hl => w_X11_move_0 X hret hf hM (lv_sub hl [0, 1] rfl))
theorem hd_X11_result : yX11_result.cls = RX11 ∧ yX11_result.cls ≠ "java/lang/invoke/MethodHandle" ∧ yX11_result.cls ≠ "java/lang/invoke/VarHandle" ∧ (parseMethodDescriptor yX11_result.desc).map (fun d => d.parameters.length) = some 0 := by decide +kernel
theorem fl_X11_result_11_7 : Cond.fieldLink RX11 57 "MoveTexts" "game" "LMoveTexts$Game;" ∈ wsX11_result := by decide +kernel
theorem fl_X11_result_1_6 : Cond.fieldLink RX11 257 "MoveTexts$Game" "result" "I" ∈ wsX11_result := by decide +kernel
theorem hw_X11_result_1 : ∀ w ∈ wsX10, w ∈ wsX11_result := by decide +kernel
theorem hw_X11_result_11 : ∀ w ∈ wsX110, w ∈ wsX11_result := by decide +kernel
noncomputable def f_X11_result_0 (x0 : Nat) (S : ZS) : Option (Int32 × ZS) :=
  m_chk (zK S x0 = 11) (
  m_cal (zP S 7 x0) (fun b1 =>
  m_chk (zK S b1 = 1) (
  some ((zI S 6 b1), S))))

set_option maxRecDepth 100000 in
set_option maxHeartbeats 4000000 in
theorem w_X11_result_0 {p : Program} {l : Launch} {e : Env} {s : State} {m : MethodId} {args : Array Value} {below : List Frame} {meth : Method} {c : Code} {Q : State → Prop} {D : va_G} {y : Nat → ClassId} {A0 : Nat → Prop} {o : Int32 × ZS} (X : CallFix p m c cX11_result 1 s args wsX11_result RX11) (hret : zRi p l e ({ frames := 0, cells := 0, slots := 0, locals := 0 } : Room) s m args below meth c Q cX11_result D y A0 .int o) {x0 : Nat} {S : ZS} {H : Heap} {locs : List Loc} {ls : Array Slot} (hf : f_X11_result_0 x0 S = some o) (hM : zH D y A0 s H locs S) (hl : lv_has ls 1 [(0, .ref (zh y x0))]) : W p l e ({ frames := 0, cells := 0, slots := 0, locals := 0 } : Room) s m args below meth c H locs 0 0 Q (F0 m 0 ls []) := by
  obtain ⟨hx, hb, hml, hown, hts⟩ := id X
  unfold f_X11_result_0 at hf
  refine lv_aload_n hx hb dX11_result_0 rfl (lv_at hl 0 rfl) ?_
  obtain ⟨ca, hf⟩ := m_chkE hf
  replace ca := z_in hM (by decide) ca
  refine z_get (k := 11) (j := 7) (C := RX11) (T := TX11) (N := 10) (fl := zf_11) (v := va_rf ((zP S 7 x0).map (zh y))) X hw_X11_result_11 hM rfl zc_11 ca (by decide) fl_X11_result_11_7 rfl dX11_result_1 ?_
  clear ca
  obtain ⟨b1, hb9, hf⟩ := m_calE hf
  refine z_topr hb9 ?_
  clear hb9
  obtain ⟨ca, hf⟩ := m_chkE hf
  replace ca := z_in hM (by decide) ca
  refine z_get (k := 1) (j := 6) (C := RX1) (T := TX1) (N := 8) (fl := zf_1) (v := .int (zI S 6 b1)) X hw_X11_result_1 hM rfl zc_1 ca (by decide) fl_X11_result_1_6 rfl dX11_result_4 ?_
  clear ca
  cases hf
  exact hret H locs _ ls hM rfl dX11_result_7
noncomputable def f_X11_result (x0 : Nat) (S : ZS) : Option (Int32 × ZS) := f_X11_result_0 x0 S
theorem c_X11_result {l : Launch} {D : va_G} {y : Nat → ClassId} {x0 : Nat} {S : ZS} {o : Int32 × ZS} (hf : f_X11_result x0 S = some o) : zMi l yX11_result wsX11_result ({ frames := 0, cells := 0, slots := 0, locals := 0 } : Room) [.ref (zh y x0)] D y S o :=
  z_entryI (own := RX11) (cc := cX11_result) (maxL := 1) (by decide) rfl rfl (Nat.le_of_ble_eq_true rfl) (fun p e s m args below meth c A0 Q H locs ls X hret hM hl => w_X11_result_0 X hret hf hM (lv_sub hl [0] rfl))
theorem hd_X11_tags : yX11_tags.cls = RX11 ∧ yX11_tags.cls ≠ "java/lang/invoke/MethodHandle" ∧ yX11_tags.cls ≠ "java/lang/invoke/VarHandle" ∧ (parseMethodDescriptor yX11_tags.desc).map (fun d => d.parameters.length) = some 0 := by decide +kernel
theorem fl_X11_tags_11_7 : Cond.fieldLink RX11 57 "MoveTexts" "game" "LMoveTexts$Game;" ∈ wsX11_tags := by decide +kernel
theorem fl_X11_tags_1_5 : Cond.fieldLink RX11 260 "MoveTexts$Game" "tagCount" "I" ∈ wsX11_tags := by decide +kernel
theorem hw_X11_tags_1 : ∀ w ∈ wsX10, w ∈ wsX11_tags := by decide +kernel
theorem hw_X11_tags_11 : ∀ w ∈ wsX110, w ∈ wsX11_tags := by decide +kernel
noncomputable def f_X11_tags_0 (x0 : Nat) (S : ZS) : Option (Int32 × ZS) :=
  m_chk (zK S x0 = 11) (
  m_cal (zP S 7 x0) (fun b1 =>
  m_chk (zK S b1 = 1) (
  some ((zI S 5 b1), S))))

set_option maxRecDepth 100000 in
set_option maxHeartbeats 4000000 in
theorem w_X11_tags_0 {p : Program} {l : Launch} {e : Env} {s : State} {m : MethodId} {args : Array Value} {below : List Frame} {meth : Method} {c : Code} {Q : State → Prop} {D : va_G} {y : Nat → ClassId} {A0 : Nat → Prop} {o : Int32 × ZS} (X : CallFix p m c cX11_tags 1 s args wsX11_tags RX11) (hret : zRi p l e ({ frames := 0, cells := 0, slots := 0, locals := 0 } : Room) s m args below meth c Q cX11_tags D y A0 .int o) {x0 : Nat} {S : ZS} {H : Heap} {locs : List Loc} {ls : Array Slot} (hf : f_X11_tags_0 x0 S = some o) (hM : zH D y A0 s H locs S) (hl : lv_has ls 1 [(0, .ref (zh y x0))]) : W p l e ({ frames := 0, cells := 0, slots := 0, locals := 0 } : Room) s m args below meth c H locs 0 0 Q (F0 m 0 ls []) := by
  obtain ⟨hx, hb, hml, hown, hts⟩ := id X
  unfold f_X11_tags_0 at hf
  refine lv_aload_n hx hb dX11_tags_0 rfl (lv_at hl 0 rfl) ?_
  obtain ⟨ca, hf⟩ := m_chkE hf
  replace ca := z_in hM (by decide) ca
  refine z_get (k := 11) (j := 7) (C := RX11) (T := TX11) (N := 10) (fl := zf_11) (v := va_rf ((zP S 7 x0).map (zh y))) X hw_X11_tags_11 hM rfl zc_11 ca (by decide) fl_X11_tags_11_7 rfl dX11_tags_1 ?_
  clear ca
  obtain ⟨b1, hb9, hf⟩ := m_calE hf
  refine z_topr hb9 ?_
  clear hb9
  obtain ⟨ca, hf⟩ := m_chkE hf
  replace ca := z_in hM (by decide) ca
  refine z_get (k := 1) (j := 5) (C := RX1) (T := TX1) (N := 8) (fl := zf_1) (v := .int (zI S 5 b1)) X hw_X11_tags_1 hM rfl zc_1 ca (by decide) fl_X11_tags_1_5 rfl dX11_tags_4 ?_
  clear ca
  cases hf
  exact hret H locs _ ls hM rfl dX11_tags_7
noncomputable def f_X11_tags (x0 : Nat) (S : ZS) : Option (Int32 × ZS) := f_X11_tags_0 x0 S
theorem c_X11_tags {l : Launch} {D : va_G} {y : Nat → ClassId} {x0 : Nat} {S : ZS} {o : Int32 × ZS} (hf : f_X11_tags x0 S = some o) : zMi l yX11_tags wsX11_tags ({ frames := 0, cells := 0, slots := 0, locals := 0 } : Room) [.ref (zh y x0)] D y S o :=
  z_entryI (own := RX11) (cc := cX11_tags) (maxL := 1) (by decide) rfl rfl (Nat.le_of_ble_eq_true rfl) (fun p e s m args below meth c A0 Q H locs ls X hret hM hl => w_X11_tags_0 X hret hf hM (lv_sub hl [0] rfl))
end
section
section ZLN
variable {p : Program} {l : Launch} {e : Env} {R : Room} {s : State} {m : MethodId} {args : Array Value} {below : List Frame} {meth : Method} {c : Code} {H : Heap} {locs : List Loc} {cells slots : Nat} {Q : State → Prop}
variable {cc : ByteArray} {pc nL : Nat} {ls : Array Slot} {rest : List Value} {D : va_G} {A0 : Nat → Prop} {Ts : List Cond} {y : Nat → ClassId} {S : ZS} {own : String} {a : Nat}
variable {q : MethodName} {ws ws' : List Cond} {rm : Room} {bytes : ByteArray} {maxL n index : Nat} {ret : Option FieldType} {As st : List Value} {C : String} {T : u_T} {N k mc ms : Nat} {Pw : Int32 → ZS → Prop}
theorem z_wcallVNv {host : String} {fl : (Nat → Int32) → (Nat → Option Nat) → List Value} (X : CallFix p m c cc nL s args Ts own) (hM : zH D y A0 s H locs S) (hnw : ((own, index, q, host) ∈ zNW ∧ Cond.initialized q.cls ∈ Ts) ∧ Cond.instanceMethod q ∈ Ts ∧ Cond.selects C q q ∈ Ts) (hcl : vwCl[k]? = some (C, T, N)) (hC : ∀ (I : Nat → Int32) (P : Nat → Option Nat) (n : Nat) (A : Nat → Int32) (B : Nat → Option Nat), zC y k I P n A B = .inr (k, fl I P)) (ha : a ∈ zL S ∧ zK S a = k) (hc : zWv l q ws rm (.ref (zh y a) :: As) D y S mc ms Pw) (hT : GoodIn Ts ws) (hw : ws = Cond.code q bytes maxL ret :: ws') (hrm : rm.cells = mc ∧ rm.slots = ms) (hcs : cells + mc ≤ R.cells ∧ slots + ms ≤ R.slots)
    (hd : q.cls ≠ "java/lang/invoke/MethodHandle" ∧ q.cls ≠ "java/lang/invoke/VarHandle" ∧ (parseMethodDescriptor q.desc).map (fun d => d.parameters.length) = some n) (hR : rm.frames + 1 ≤ R.frames ∧ 8 + (maxL + 11) + rm.locals ≤ R.locals) (hn : As.length = n) (hls : ls.size = nL) (hst : st = As.reverse ++ .ref (zh y a) :: rest) (hrest : (rest.map fun v => v.category).sum ≤ 8) (hdg : decode cc pc = .ok (.invokevirtual index, 3))
    (kk : ∀ (S1 : ZS) (H : Heap) (locs : List Loc), Pw 0 S1 → zH D y A0 s H locs S1 → W p l e R s m args below meth c H locs (cells + mc) (slots + ms) Q (F0 m (pc + 3) ls rest)) : W p l e R s m args below meth c H locs cells slots Q (F0 m pc ls st) := by
  subst hst
  have hF := z_free hM
  refine va_callv (va_runVN (host := host) (C := C) (As := As) (rest := rest) X (hc H.size) ⟨va_cnB n X.2.2.2.2 hT hw hrm.1 hrm.2 (hM.2.2.2.2.2.1.1 _ hnw.1.1) (X.2.2.2.2 _ hnw.1.2) hd hR, X.2.2.2.2 _ hnw.2.1, X.2.2.2.2 _ hnw.2.2⟩ (z_preV hcl hC ha hM) rfl hn hls rfl (lv_room hrest) hdg hcs) hM.2.2.1 (fun q _ hq => hF q hq) hF (fun u t H1 locs1 ht hvm hw1 hB hz1 hk1 hS => ?_)
  obtain ⟨hP, hD, hS0, hK, hA, hE⟩ := hM
  obtain ⟨hB', hD', hZ'⟩ : va_P D vwCl (zW y u) t.heap ∧ va_D (va_A (zW y S) H.size) (zW y u) ∧ zG y u t.heap.size := hB
  rw [ht] at hB' hZ'
  exact kk u H1 locs1 hw1 ⟨hB', hD'.weaken (fun _ q _ h9 => hF q.1 h9), hS, hK, hA, hE.1, hZ'⟩
end ZLN
theorem hd_X11_write : yX11_write.cls = RX11 ∧ yX11_write.cls ≠ "java/lang/invoke/MethodHandle" ∧ yX11_write.cls ≠ "java/lang/invoke/VarHandle" ∧ (parseMethodDescriptor yX11_write.desc).map (fun d => d.parameters.length) = some 0 := by decide +kernel
theorem fl_X11_write_11_1 : Cond.fieldLink RX11 16 "MoveTexts" "out" "LMoveTexts$Row;" ∈ wsX11_write := by decide +kernel
theorem fl_X11_write_11_6 : Cond.fieldLink RX11 50 "MoveTexts" "gameWriter" "LMoveTexts$GameWriter;" ∈ wsX11_write := by decide +kernel
theorem fl_X11_write_11_7 : Cond.fieldLink RX11 57 "MoveTexts" "game" "LMoveTexts$Game;" ∈ wsX11_write := by decide +kernel
theorem fl_X11_write_4_2 : Cond.fieldLink RX11 128 "MoveTexts$Node" "first" "I" ∈ wsX11_write := by decide +kernel
theorem hw_X11_write_11 : ∀ w ∈ wsX110, w ∈ wsX11_write := by decide +kernel
theorem hw_X11_write_4 : ∀ w ∈ wsX40, w ∈ wsX11_write := by decide +kernel
theorem vn_X11_write_133 : ((RX11, 133, yX3_putLine, "MoveTexts") ∈ zNW ∧ Cond.initialized yX3_putLine.cls ∈ wsX11_write) ∧ Cond.instanceMethod yX3_putLine ∈ wsX11_write ∧ Cond.selects RX3 yX3_putLine yX3_putLine ∈ wsX11_write := by decide +kernel
noncomputable def g_X11_write_0 (Pw : Int32 → ZS → Prop) (x0 : Nat) (S : ZS) (C T : Nat) : Prop :=
  m_chkQ (zK S x0 = 11) (
  m_calP (zP S 1 x0) (fun b1 =>
  m_chkQ (zK S b1 = 6) (
  m_calP (f_X6_keep b1 (0 : Int32) S) (fun o2 =>
  m_chkQ (zK o2.2 x0 = 11) (
  m_calP (zP o2.2 6 x0) (fun b3 =>
  m_chkQ (zK o2.2 x0 = 11) (
  m_calP (zP o2.2 7 x0) (fun b4 =>
  m_chkQ (zK o2.2 x0 = 11) (
  m_calP (zP o2.2 1 x0) (fun b5 =>
  m_chkQ (zK o2.2 b3 = 3) (
  m_gal (C) (T) (fun mc ms Pw => g_X3_putHead b3 b4 b5 o2.2 mc ms Pw) (fun r7 S8 C9 T10 =>
  m_chkQ (zK S8 x0 = 11) (
  m_calP (zP S8 6 x0) (fun b11 =>
  m_chkQ (zK S8 x0 = 11) (
  m_calP (zP S8 7 x0) (fun b12 =>
  m_chkQ (zK S8 x0 = 11) (
  m_calP (zP S8 7 x0) (fun b13 =>
  m_chkQ (zK S8 b13 = 1) (
  m_calP (f_X1_at b13 (0 : Int32) S8) (fun o14 =>
  m_chkQ (zK o14.2 o14.1 = 4) (
  m_chkQ (zK o14.2 x0 = 11) (
  m_calP (zP o14.2 1 x0) (fun b15 =>
  m_chkQ (zK o14.2 b11 = 3) (
  m_gal (C9) (T10) (fun mc ms Pw => g_X3_putLine b11 b12 (zI o14.2 2 o14.1) (0 : Int32) b15 o14.2 mc ms Pw) (fun r17 S18 C19 T20 =>
  m_chkQ (zK S18 x0 = 11) (
  m_calP (zP S18 6 x0) (fun b21 =>
  m_chkQ (zK S18 x0 = 11) (
  m_calP (zP S18 7 x0) (fun b22 =>
  m_chkQ (zK S18 x0 = 11) (
  m_calP (zP S18 1 x0) (fun b23 =>
  m_chkQ (zK S18 b21 = 3) (
  m_gal (C19) (T20) (fun mc ms Pw => g_X3_putEnd b21 b22 b23 S18 mc ms Pw) (fun r25 S26 C27 T28 =>
  m_chkQ (zK S26 x0 = 11) (
  m_calP (zP S26 1 x0) (fun b29 =>
  m_chkQ (zK S26 b29 = 6) (
  m_calP (f_X6_size b29 S26) (fun o30 =>
  Pw o30.1 o30.2)))))))))))))))))))))))))))))))))))))

set_option maxRecDepth 100000 in
set_option maxHeartbeats 4000000 in
theorem w_X11_write_0 {p : Program} {l : Launch} {e : Env} {s : State} {m : MethodId} {args : Array Value} {below : List Frame} {meth : Method} {c : Code} {Q : State → Prop} {D : va_G} {y : Nat → ClassId} {A0 : Nat → Prop} {kc kt : Nat} {Pw : Int32 → ZS → Prop} (X : CallFix p m c cX11_write 1 s args wsX11_write RX11) (hret : zQi p l e ({ frames := 16, cells := kc, slots := kt, locals := 464 } : Room) s m args below meth c Q cX11_write D y A0 .int Pw) {x0 : Nat} {S : ZS} {C T : Nat} {H : Heap} {locs : List Loc} {ls : Array Slot} (hf : g_X11_write_0 Pw x0 S C T) (hCT : C ≤ kc ∧ T ≤ kt) (hM : zH D y A0 s H locs S) (hl : lv_has ls 1 [(0, .ref (zh y x0))]) : W p l e ({ frames := 16, cells := kc, slots := kt, locals := 464 } : Room) s m args below meth c H locs (kc - C) (kt - T) Q (F0 m 0 ls []) := by
  obtain ⟨hx, hb, hml, hown, hts⟩ := id X
  unfold g_X11_write_0 at hf
  refine lv_aload_n hx hb dX11_write_0 rfl (lv_at hl 0 rfl) ?_
  obtain ⟨ca, hf⟩ := m_chkPE hf
  replace ca := z_in hM (by decide) ca
  refine z_get (k := 11) (j := 1) (C := RX11) (T := TX11) (N := 10) (fl := zf_11) (v := va_rf ((zP S 1 x0).map (zh y))) X hw_X11_write_11 hM rfl zc_11 ca (by decide) fl_X11_write_11_1 rfl dX11_write_1 ?_
  clear ca
  obtain ⟨b1, hb9, hf⟩ := m_calPE hf
  refine z_topr hb9 ?_
  clear hb9
  refine lv_iconst (v := (0 : Int32)) hx hb dX11_write_4 (by decide) ?_
  obtain ⟨ca, hf⟩ := m_chkPE hf
  replace ca := z_in hM (by decide) ca
  obtain ⟨o2, ho, hf⟩ := m_calPE hf
  refine z_gcallVv (k := 6) (C := RX6) (T := TX6) (N := 2) (fl := zf_6) X hM rfl zc_6 ca (c_X6_keep ho) gX11_write_X6_keep rfl ⟨rfl, rfl⟩ hd_X6_keep ⟨Nat.le_of_ble_eq_true rfl, Nat.le_of_ble_eq_true rfl⟩ rfl hl.1 rfl ⟨Nat.sub_le _ _, Nat.sub_le _ _⟩ (Nat.le_of_ble_eq_true rfl) dX11_write_5 (fun H locs hM => ?_)
  clear ho
  refine lv_aload_n hx hb dX11_write_8 rfl (lv_at hl 0 rfl) ?_
  obtain ⟨ca, hf⟩ := m_chkPE hf
  replace ca := z_in hM (by decide) ca
  refine z_get (k := 11) (j := 6) (C := RX11) (T := TX11) (N := 10) (fl := zf_11) (v := va_rf ((zP o2.2 6 x0).map (zh y))) X hw_X11_write_11 hM rfl zc_11 ca (by decide) fl_X11_write_11_6 rfl dX11_write_9 ?_
  clear ca
  obtain ⟨b3, hb9, hf⟩ := m_calPE hf
  refine z_topr hb9 ?_
  clear hb9
  refine lv_aload_n hx hb dX11_write_12 rfl (lv_at hl 0 rfl) ?_
  obtain ⟨ca, hf⟩ := m_chkPE hf
  replace ca := z_in hM (by decide) ca
  refine z_get (k := 11) (j := 7) (C := RX11) (T := TX11) (N := 10) (fl := zf_11) (v := va_rf ((zP o2.2 7 x0).map (zh y))) X hw_X11_write_11 hM rfl zc_11 ca (by decide) fl_X11_write_11_7 rfl dX11_write_13 ?_
  clear ca
  obtain ⟨b4, hb9, hf⟩ := m_calPE hf
  refine z_topr hb9 ?_
  clear hb9
  refine lv_aload_n hx hb dX11_write_16 rfl (lv_at hl 0 rfl) ?_
  obtain ⟨ca, hf⟩ := m_chkPE hf
  replace ca := z_in hM (by decide) ca
  refine z_get (k := 11) (j := 1) (C := RX11) (T := TX11) (N := 10) (fl := zf_11) (v := va_rf ((zP o2.2 1 x0).map (zh y))) X hw_X11_write_11 hM rfl zc_11 ca (by decide) fl_X11_write_11_1 rfl dX11_write_17 ?_
  clear ca
  obtain ⟨b5, hb9, hf⟩ := m_calPE hf
  refine z_topr hb9 ?_
  clear hb9
  obtain ⟨ca, hf⟩ := m_chkPE hf
  replace ca := z_in hM (by decide) ca
  obtain ⟨mc, ms, hcm, ho⟩ := m_galE hf
  refine z_wcallVv (k := 3) (C := RX3) (T := TX3) (N := 2) (fl := zf_3) X hM rfl zc_3 ca (c_X3_putHead ho) gX11_write_X3_putHead rfl ⟨rfl, rfl⟩ ⟨by show kc - (C) + mc ≤ kc; omega, by show kt - (T) + ms ≤ kt; omega⟩ hd_X3_putHead ⟨Nat.le_of_ble_eq_true rfl, Nat.le_of_ble_eq_true rfl⟩ rfl hl.1 rfl (Nat.le_of_ble_eq_true rfl) dX11_write_20 (fun S8 H locs hf hM => ?_)
  refine z_eqCS (c2 := kc - (C - mc)) (t2 := kt - (T - ms)) (by omega) (by omega) ?_
  replace hCT : C - mc ≤ kc ∧ T - ms ≤ kt := by omega
  generalize C - mc = C9 at hf hCT ⊢
  generalize T - ms = T10 at hf hCT ⊢
  clear ho hcm
  refine lv_aload_n hx hb dX11_write_23 rfl (lv_at hl 0 rfl) ?_
  obtain ⟨ca, hf⟩ := m_chkPE hf
  replace ca := z_in hM (by decide) ca
  refine z_get (k := 11) (j := 6) (C := RX11) (T := TX11) (N := 10) (fl := zf_11) (v := va_rf ((zP S8 6 x0).map (zh y))) X hw_X11_write_11 hM rfl zc_11 ca (by decide) fl_X11_write_11_6 rfl dX11_write_24 ?_
  clear ca
  obtain ⟨b11, hb9, hf⟩ := m_calPE hf
  refine z_topr hb9 ?_
  clear hb9
  refine lv_aload_n hx hb dX11_write_27 rfl (lv_at hl 0 rfl) ?_
  obtain ⟨ca, hf⟩ := m_chkPE hf
  replace ca := z_in hM (by decide) ca
  refine z_get (k := 11) (j := 7) (C := RX11) (T := TX11) (N := 10) (fl := zf_11) (v := va_rf ((zP S8 7 x0).map (zh y))) X hw_X11_write_11 hM rfl zc_11 ca (by decide) fl_X11_write_11_7 rfl dX11_write_28 ?_
  clear ca
  obtain ⟨b12, hb9, hf⟩ := m_calPE hf
  refine z_topr hb9 ?_
  clear hb9
  refine lv_aload_n hx hb dX11_write_31 rfl (lv_at hl 0 rfl) ?_
  obtain ⟨ca, hf⟩ := m_chkPE hf
  replace ca := z_in hM (by decide) ca
  refine z_get (k := 11) (j := 7) (C := RX11) (T := TX11) (N := 10) (fl := zf_11) (v := va_rf ((zP S8 7 x0).map (zh y))) X hw_X11_write_11 hM rfl zc_11 ca (by decide) fl_X11_write_11_7 rfl dX11_write_32 ?_
  clear ca
  obtain ⟨b13, hb9, hf⟩ := m_calPE hf
  refine z_topr hb9 ?_
  clear hb9
  refine lv_iconst (v := (0 : Int32)) hx hb dX11_write_35 (by decide) ?_
  obtain ⟨ca, hf⟩ := m_chkPE hf
  replace ca := z_in hM (by decide) ca
  obtain ⟨o14, ho, hf⟩ := m_calPE hf
  refine z_gcallVr (k := 1) (C := RX1) (T := TX1) (N := 8) (fl := zf_1) X hM rfl zc_1 ca (c_X1_at ho) gX11_write_X1_at rfl ⟨rfl, rfl⟩ hd_X1_at ⟨Nat.le_of_ble_eq_true rfl, Nat.le_of_ble_eq_true rfl⟩ rfl hl.1 rfl ⟨Nat.sub_le _ _, Nat.sub_le _ _⟩ (Nat.le_of_ble_eq_true rfl) dX11_write_36 (fun H locs hM => ?_)
  clear ho
  obtain ⟨ca, hf⟩ := m_chkPE hf
  replace ca := z_in hM (by decide) ca
  refine z_get (k := 4) (j := 2) (C := RX4) (T := TX4) (N := 7) (fl := zf_4) (v := .int (zI o14.2 2 o14.1)) X hw_X11_write_4 hM rfl zc_4 ca (by decide) fl_X11_write_4_2 rfl dX11_write_39 ?_
  clear ca
  refine lv_iconst (v := (0 : Int32)) hx hb dX11_write_42 (by decide) ?_
  refine lv_aload_n hx hb dX11_write_43 rfl (lv_at hl 0 rfl) ?_
  obtain ⟨ca, hf⟩ := m_chkPE hf
  replace ca := z_in hM (by decide) ca
  refine z_get (k := 11) (j := 1) (C := RX11) (T := TX11) (N := 10) (fl := zf_11) (v := va_rf ((zP o14.2 1 x0).map (zh y))) X hw_X11_write_11 hM rfl zc_11 ca (by decide) fl_X11_write_11_1 rfl dX11_write_44 ?_
  clear ca
  obtain ⟨b15, hb9, hf⟩ := m_calPE hf
  refine z_topr hb9 ?_
  clear hb9
  obtain ⟨ca, hf⟩ := m_chkPE hf
  replace ca := z_in hM (by decide) ca
  obtain ⟨mc, ms, hcm, ho⟩ := m_galE hf
  refine z_wcallVNv (k := 3) (C := RX3) (T := TX3) (N := 2) (fl := zf_3) X hM vn_X11_write_133 rfl zc_3 ca (c_X3_putLine ho) gX11_write_X3_putLine_n133 rfl ⟨rfl, rfl⟩ ⟨by show kc - (C9) + mc ≤ kc; omega, by show kt - (T10) + ms ≤ kt; omega⟩ hd_X3_putLine.2 ⟨Nat.le_of_ble_eq_true rfl, Nat.le_of_ble_eq_true rfl⟩ rfl hl.1 rfl (Nat.le_of_ble_eq_true rfl) dX11_write_47 (fun S18 H locs hf hM => ?_)
  refine z_eqCS (c2 := kc - (C9 - mc)) (t2 := kt - (T10 - ms)) (by omega) (by omega) ?_
  replace hCT : C9 - mc ≤ kc ∧ T10 - ms ≤ kt := by omega
  generalize C9 - mc = C19 at hf hCT ⊢
  generalize T10 - ms = T20 at hf hCT ⊢
  clear ho hcm
  refine lv_aload_n hx hb dX11_write_50 rfl (lv_at hl 0 rfl) ?_
  obtain ⟨ca, hf⟩ := m_chkPE hf
  replace ca := z_in hM (by decide) ca
  refine z_get (k := 11) (j := 6) (C := RX11) (T := TX11) (N := 10) (fl := zf_11) (v := va_rf ((zP S18 6 x0).map (zh y))) X hw_X11_write_11 hM rfl zc_11 ca (by decide) fl_X11_write_11_6 rfl dX11_write_51 ?_
  clear ca
  obtain ⟨b21, hb9, hf⟩ := m_calPE hf
  refine z_topr hb9 ?_
  clear hb9
  refine lv_aload_n hx hb dX11_write_54 rfl (lv_at hl 0 rfl) ?_
  obtain ⟨ca, hf⟩ := m_chkPE hf
  replace ca := z_in hM (by decide) ca
  refine z_get (k := 11) (j := 7) (C := RX11) (T := TX11) (N := 10) (fl := zf_11) (v := va_rf ((zP S18 7 x0).map (zh y))) X hw_X11_write_11 hM rfl zc_11 ca (by decide) fl_X11_write_11_7 rfl dX11_write_55 ?_
  clear ca
  obtain ⟨b22, hb9, hf⟩ := m_calPE hf
  refine z_topr hb9 ?_
  clear hb9
  refine lv_aload_n hx hb dX11_write_58 rfl (lv_at hl 0 rfl) ?_
  obtain ⟨ca, hf⟩ := m_chkPE hf
  replace ca := z_in hM (by decide) ca
  refine z_get (k := 11) (j := 1) (C := RX11) (T := TX11) (N := 10) (fl := zf_11) (v := va_rf ((zP S18 1 x0).map (zh y))) X hw_X11_write_11 hM rfl zc_11 ca (by decide) fl_X11_write_11_1 rfl dX11_write_59 ?_
  clear ca
  obtain ⟨b23, hb9, hf⟩ := m_calPE hf
  refine z_topr hb9 ?_
  clear hb9
  obtain ⟨ca, hf⟩ := m_chkPE hf
  replace ca := z_in hM (by decide) ca
  obtain ⟨mc, ms, hcm, ho⟩ := m_galE hf
  refine z_wcallVv (k := 3) (C := RX3) (T := TX3) (N := 2) (fl := zf_3) X hM rfl zc_3 ca (c_X3_putEnd ho) gX11_write_X3_putEnd rfl ⟨rfl, rfl⟩ ⟨by show kc - (C19) + mc ≤ kc; omega, by show kt - (T20) + ms ≤ kt; omega⟩ hd_X3_putEnd ⟨Nat.le_of_ble_eq_true rfl, Nat.le_of_ble_eq_true rfl⟩ rfl hl.1 rfl (Nat.le_of_ble_eq_true rfl) dX11_write_62 (fun S26 H locs hf hM => ?_)
  refine z_eqCS (c2 := kc - (C19 - mc)) (t2 := kt - (T20 - ms)) (by omega) (by omega) ?_
  replace hCT : C19 - mc ≤ kc ∧ T20 - ms ≤ kt := by omega
  generalize C19 - mc = C27 at hf hCT ⊢
  generalize T20 - ms = T28 at hf hCT ⊢
  clear ho hcm
  refine lv_aload_n hx hb dX11_write_65 rfl (lv_at hl 0 rfl) ?_
  obtain ⟨ca, hf⟩ := m_chkPE hf
  replace ca := z_in hM (by decide) ca
  refine z_get (k := 11) (j := 1) (C := RX11) (T := TX11) (N := 10) (fl := zf_11) (v := va_rf ((zP S26 1 x0).map (zh y))) X hw_X11_write_11 hM rfl zc_11 ca (by decide) fl_X11_write_11_1 rfl dX11_write_66 ?_
  clear ca
  obtain ⟨b29, hb9, hf⟩ := m_calPE hf
  refine z_topr hb9 ?_
  clear hb9
  obtain ⟨ca, hf⟩ := m_chkPE hf
  replace ca := z_in hM (by decide) ca
  obtain ⟨o30, ho, hf⟩ := m_calPE hf
  refine z_gcallVi (k := 6) (C := RX6) (T := TX6) (N := 2) (fl := zf_6) X hM rfl zc_6 ca (c_X6_size ho) gX11_write_X6_size rfl ⟨rfl, rfl⟩ hd_X6_size ⟨Nat.le_of_ble_eq_true rfl, Nat.le_of_ble_eq_true rfl⟩ rfl hl.1 rfl ⟨Nat.sub_le _ _, Nat.sub_le _ _⟩ (Nat.le_of_ble_eq_true rfl) dX11_write_69 (fun H locs hM => ?_)
  clear ho
  exact hret _ _ _ _ H locs _ ls hf hM rfl dX11_write_72
noncomputable def g_X11_write (x0 : Nat) (S : ZS) (mc ms : Nat) (Pw : Int32 → ZS → Prop) : Prop := g_X11_write_0 Pw x0 S mc ms
theorem c_X11_write {l : Launch} {D : va_G} {y : Nat → ClassId} {x0 : Nat} {S : ZS} {kc kt : Nat} {Pw : Int32 → ZS → Prop} (hf : g_X11_write x0 S kc kt Pw) : zWi l yX11_write wsX11_write ({ frames := 16, cells := kc, slots := kt, locals := 464 } : Room) [.ref (zh y x0)] D y S kc kt Pw :=
  z_wentI (own := RX11) (cc := cX11_write) (maxL := 1) (by decide) rfl rfl (Nat.le_of_ble_eq_true rfl) ⟨rfl, rfl⟩ (fun p e s m args below meth c A0 Q H locs ls X hret hM hl => w_X11_write_0 X hret hf ⟨Nat.le_refl _, Nat.le_refl _⟩ hM (lv_sub hl [0] rfl))
end
section
noncomputable def m_cal2 {α β : Type} (o : Option (α × ZS)) (k : α → ZS → Option β) : Option β := match o with
  | none => none
  | some z => k z.1 z.2
noncomputable def Tw {α : Type} (Pw : α → ZS → Prop) (d : Option (α × ZS)) (n m : Nat) (g : Nat → Nat → Prop) : Prop :=
  ∀ o, d = some o → (n ≤ zt o.2 ∧ m ≤ zu o.2) ∧ ∀ C T, zt o.2 ≤ n + C → zu o.2 ≤ m + T → Pw o.1 o.2 → g C T
section TWS
variable {α : Type} {Pw : α → ZS → Prop} {n m : Nat}
theorem tw_at {S : ZS} {d : Option (α × ZS)} {g : Nat → Nat → Prop} (e : zt S = n ∧ zu S = m) (h : Tw Pw d (zt S) (zu S) g) : Tw Pw d n m g := by
  rw [e.1, e.2] at h; exact h
theorem tw_chk {c : Prop} [Decidable c] {d : Option (α × ZS)} {g : Nat → Nat → Prop} (h : c → Tw Pw d n m g) : Tw Pw (m_chk c d) n m (fun C T => m_chkQ c (g C T)) := by
  intro o ho
  by_cases hc : c
  · have h1 : m_chk c d = d := if_pos hc
    rw [h1] at ho
    obtain ⟨a, b⟩ := h hc o ho
    exact ⟨a, fun C T h2 h3 h4 => ⟨hc, b C T h2 h3 h4⟩⟩
  · have h1 : m_chk c d = none := if_neg hc
    rw [h1] at ho; cases ho
theorem tw_if {c : Prop} [Decidable c] {d1 d2 : Option (α × ZS)} {g1 g2 : Nat → Nat → Prop} (h1 : c → Tw Pw d1 n m g1) (h2 : ¬ c → Tw Pw d2 n m g2) : Tw Pw (m_if c d1 d2) n m (fun C T => m_ifQ c (g1 C T) (g2 C T)) := by
  intro o ho
  by_cases hc : c
  · have e1 : m_if c d1 d2 = d1 := if_pos hc
    rw [e1] at ho
    obtain ⟨a, b⟩ := h1 hc o ho
    exact ⟨a, fun C T h3 h4 h5 => ⟨fun _ => b C T h3 h4 h5, fun h => absurd hc h⟩⟩
  · have e1 : m_if c d1 d2 = d2 := if_neg hc
    rw [e1] at ho
    obtain ⟨a, b⟩ := h2 hc o ho
    exact ⟨a, fun C T h3 h4 h5 => ⟨fun h => absurd h hc, fun _ => b C T h3 h4 h5⟩⟩
theorem tw_bndv {β : Type} {x : β} {k : β → Option (α × ZS)} {g : β → Nat → Nat → Prop} (h : ∀ z, Tw Pw (k z) n m (g z)) : Tw Pw (m_bnd x k) n m (fun C T => m_bndP x (fun z => g z C T)) := h x
theorem tw_bnds {x : ZS} {k : ZS → Option (α × ZS)} {g : ZS → Nat → Nat → Prop} (hx : zt x = n ∧ zu x = m) (h : ∀ z : ZS, (zt z = n ∧ zu z = m) → Tw Pw (k z) n m (g z)) : Tw Pw (m_bnd x k) n m (fun C T => m_bndP x (fun z => g z C T)) := h x hx
theorem tw_calv {β : Type} {x : Option β} {k : β → Option (α × ZS)} {g : β → Nat → Nat → Prop} (h : ∀ z, Tw Pw (k z) n m (g z)) : Tw Pw (m_cal x k) n m (fun C T => m_calP x (fun z => g z C T)) := by
  cases x with
  | none => intro o ho; cases ho
  | some z =>
    intro o ho
    obtain ⟨a, b⟩ := h z o ho
    exact ⟨a, fun C T h2 h3 h4 => ⟨z, rfl, b C T h2 h3 h4⟩⟩
theorem tw_calf {β : Type} {S : ZS} {x : Option (β × ZS)} {k : β × ZS → Option (α × ZS)} {g : β × ZS → Nat → Nat → Prop} (hS : zt S = n ∧ zu S = m) (h : ∀ o : β × ZS, (zt o.2 = n ∧ zu o.2 = m) → Tw Pw (k o) n m (g o)) : Tw Pw (m_cal x (fun o => m_chk (zt o.2 = zt S ∧ zu o.2 = zu S) (k o))) n m (fun C T => m_calP x (fun o => g o C T)) := by
  cases x with
  | none => intro o ho; cases ho
  | some z =>
    intro o ho
    have ho2 : m_chk (zt z.2 = zt S ∧ zu z.2 = zu S) (k z) = some o := ho
    by_cases hc : zt z.2 = zt S ∧ zu z.2 = zu S
    · have e1 : m_chk (zt z.2 = zt S ∧ zu z.2 = zu S) (k z) = k z := if_pos hc
      rw [e1] at ho2
      obtain ⟨a, b⟩ := h z ⟨hc.1.trans hS.1, hc.2.trans hS.2⟩ o ho2
      exact ⟨a, fun C T h2 h3 h4 => ⟨z, rfl, b C T h2 h3 h4⟩⟩
    · have e1 : m_chk (zt z.2 = zt S ∧ zu z.2 = zu S) (k z) = none := if_neg hc
      rw [e1] at ho2; cases ho2
theorem tw_opt {x : Option Nat} {d1 : Option (α × ZS)} {k : Nat → Option (α × ZS)} {g1 : Nat → Nat → Prop} {g2 : Nat → Nat → Nat → Prop} (h1 : Tw Pw d1 n m g1) (h2 : ∀ b, Tw Pw (k b) n m (g2 b)) : Tw Pw (m_opt x d1 k) n m (fun C T => m_optP x (g1 C T) (fun b => g2 b C T)) := by
  cases x with
  | none =>
    intro o ho
    obtain ⟨a, b⟩ := h1 o ho
    exact ⟨a, fun C T h3 h4 h5 => ⟨fun _ => b C T h3 h4 h5, fun _ h => by cases h⟩⟩
  | some z =>
    intro o ho
    obtain ⟨a, b⟩ := h2 z o ho
    exact ⟨a, fun C T h3 h4 h5 => ⟨fun h => (by cases h), fun w h => by cases h; exact b C T h3 h4 h5⟩⟩
theorem tw_new {n9 z : Nat} {x : Nat → ZS} {k : Nat → ZS → Option (α × ZS)} {g : Nat → ZS → Nat → Nat → Prop} (hx : ∀ q, zt (x q) = n + 1 ∧ zu (x q) = m + n9) (h : ∀ (q : Nat) (S : ZS), (zt S = n + 1 ∧ zu S = m + n9) → Tw Pw (k q S) (n + 1) (m + n9) (g q S)) : Tw Pw (m_bnd z (fun q => m_bnd (x q) (fun S => k q S))) n m (fun C T => m_newP C T n9 z (fun q C' T' => m_bndP (x q) (fun S => g q S C' T'))) := by
  intro o ho
  obtain ⟨a, b⟩ := h z (x z) (hx z) o ho
  refine ⟨by omega, fun C T h2 h3 h4 => ⟨by omega, fun q hq => ?_⟩⟩
  subst hq
  exact b (C - 1) (T - n9) (by omega) (by omega) h4
theorem tw_gal {dY : Option (Int32 × ZS)} {gY : Nat → Nat → (Int32 → ZS → Prop) → Prop} {k : Int32 → ZS → Option (α × ZS)} {g : Int32 → ZS → Nat → Nat → Prop} (hy : ∀ Pw' : Int32 → ZS → Prop, Tw Pw' dY n m (fun C T => gY C T Pw')) (h : ∀ r S, Tw Pw (k r S) (zt S) (zu S) (fun C T => g r S C T)) : Tw Pw (m_cal2 dY k) n m (fun C T => m_gal C T gY g) := by
  cases dY with
  | none => intro o ho; cases ho
  | some z =>
    intro o ho
    obtain ⟨a, b⟩ := h z.1 z.2 o ho
    have a1 := (hy (fun _ _ => True) z rfl).1
    refine ⟨by omega, fun C T h2 h3 h4 => ⟨zt z.2 - n, zu z.2 - m, by omega, ?_⟩⟩
    refine (hy (fun r S => g r S (C - (zt z.2 - n)) (T - (zu z.2 - m))) z rfl).2 _ _ (by omega) (by omega) ?_
    exact b _ _ (by omega) (by omega) h4
theorem tw_galN {dY : Option (Nat × ZS)} {gY : Nat → Nat → (Nat → ZS → Prop) → Prop} {k : Nat → ZS → Option (α × ZS)} {g : Nat → ZS → Nat → Nat → Prop} (hy : ∀ Pw' : Nat → ZS → Prop, Tw Pw' dY n m (fun C T => gY C T Pw')) (h : ∀ r S, Tw Pw (k r S) (zt S) (zu S) (fun C T => g r S C T)) : Tw Pw (m_cal2 dY k) n m (fun C T => m_galN C T gY g) := by
  cases dY with
  | none => intro o ho; cases ho
  | some z =>
    intro o ho
    obtain ⟨a, b⟩ := h z.1 z.2 o ho
    have a1 := (hy (fun _ _ => True) z rfl).1
    refine ⟨by omega, fun C T h2 h3 h4 => ⟨zt z.2 - n, zu z.2 - m, by omega, ?_⟩⟩
    refine (hy (fun r S => g r S (C - (zt z.2 - n)) (T - (zu z.2 - m))) z rfl).2 _ _ (by omega) (by omega) ?_
    exact b _ _ (by omega) (by omega) h4
theorem tw_ret {v : α} {S : ZS} (hS : zt S = n ∧ zu S = m) : Tw Pw (some (v, S)) n m (fun _ _ => Pw v S) := by
  intro o ho
  cases ho
  exact ⟨⟨Nat.le_of_eq hS.1.symm, Nat.le_of_eq hS.2.symm⟩, fun _ _ _ _ h => h⟩
theorem tw_none {g : Nat → Nat → Prop} : Tw Pw none n m g := by intro o ho; cases ho
end TWS
end
