section
theorem hd_X0_init : yX0_init.cls = RX0 ∧ yX0_init.cls ≠ "java/lang/invoke/MethodHandle" ∧ yX0_init.cls ≠ "java/lang/invoke/VarHandle" ∧ (parseMethodDescriptor yX0_init.desc).map (fun d => d.parameters.length) = some 0 := by decide +kernel
theorem ar_X0_init_int : Cond.arrayClass .int ∈ wsX0_init := by decide +kernel
theorem fl_X0_init_0_0 : Cond.fieldLink RX0 9 "MoveTexts$Board" "men" "[I" ∈ wsX0_init := by decide +kernel
theorem fl_X0_init_0_1 : Cond.fieldLink RX0 15 "MoveTexts$Board" "whiteKing" "I" ∈ wsX0_init := by decide +kernel
theorem fl_X0_init_0_2 : Cond.fieldLink RX0 19 "MoveTexts$Board" "blackKing" "I" ∈ wsX0_init := by decide +kernel
theorem fl_X0_init_0_3 : Cond.fieldLink RX0 22 "MoveTexts$Board" "side" "I" ∈ wsX0_init := by decide +kernel
theorem fl_X0_init_0_4 : Cond.fieldLink RX0 25 "MoveTexts$Board" "rights" "I" ∈ wsX0_init := by decide +kernel
theorem fl_X0_init_0_5 : Cond.fieldLink RX0 28 "MoveTexts$Board" "passed" "I" ∈ wsX0_init := by decide +kernel
theorem fl_X0_init_0_6 : Cond.fieldLink RX0 31 "MoveTexts$Board" "number" "I" ∈ wsX0_init := by decide +kernel
theorem hw_X0_init_0 : ∀ w ∈ wsX00, w ∈ wsX0_init := by decide +kernel
theorem ob_X0_init : (Cond.methodLink RX0 3 objectInit ∈ wsX0_init ∧ Cond.instanceMethod objectInit ∈ wsX0_init) ∧ Cond.code objectInit ⟨#[0xb1]⟩ 1 none ∈ wsX0_init := by decide +kernel
noncomputable def g_X0_init_0 (Pw : Int32 → ZS → Prop) (x0 : Nat) (S : ZS) (C T : Nat) : Prop :=
  m_chkQ (¬ (64 : Int32) < 0 ∧ ((64 : Int32)).toNatClampNeg * componentBytes .int ≤ 536870912) (
  m_newP (C) (T) ((64 : Int32)).toNatClampNeg (zt S) (fun q1 C3 T4 =>
  m_bndP (zsNewA S q1 14 ((64 : Int32)).toNatClampNeg) (fun S2 =>
  m_chkQ (zK S2 x0 = 0) (
  m_bndP (zsP S2 0 x0 (some q1)) (fun S5 =>
  m_chkQ (zK S5 x0 = 0) (
  m_bndP (zsI S5 1 x0 (4 : Int32)) (fun S6 =>
  m_chkQ (zK S6 x0 = 0) (
  m_bndP (zsI S6 2 x0 (60 : Int32)) (fun S7 =>
  m_chkQ (zK S7 x0 = 0) (
  m_bndP (zsI S7 3 x0 (0 : Int32)) (fun S8 =>
  m_chkQ (zK S8 x0 = 0) (
  m_bndP (zsI S8 4 x0 (0 : Int32)) (fun S9 =>
  m_chkQ (zK S9 x0 = 0) (
  m_bndP (zsI S9 5 x0 (-1 : Int32)) (fun S10 =>
  m_chkQ (zK S10 x0 = 0) (
  m_bndP (zsI S10 6 x0 (1 : Int32)) (fun S11 =>
  Pw 0 S11)))))))))))))))))

set_option maxRecDepth 100000 in
set_option maxHeartbeats 4000000 in
theorem w_X0_init_0 {p : Program} {l : Launch} {e : Env} {s : State} {m : MethodId} {args : Array Value} {below : List Frame} {meth : Method} {c : Code} {Q : State → Prop} {D : va_G} {y : Nat → ClassId} {A0 : Nat → Prop} {kc kt : Nat} {Pw : Int32 → ZS → Prop} (X : CallFix p m c cX0_init 1 s args wsX0_init RX0) (hin : meth.name = "<init>") (hret : zQv p l e ({ frames := 1, cells := kc, slots := kt, locals := 24 } : Room) s m args below meth c Q cX0_init D y A0 Pw) {x0 : Nat} {S : ZS} {C T : Nat} {H : Heap} {locs : List Loc} {ls : Array Slot} (hf : g_X0_init_0 Pw x0 S C T) (hCT : C ≤ kc ∧ T ≤ kt) (hM : zH D y A0 s H locs S) (hl : lv_has ls 1 [(0, .ref (zh y x0))]) : W p l e ({ frames := 1, cells := kc, slots := kt, locals := 24 } : Room) s m args below meth c H locs (kc - C) (kt - T) Q (F0 m 0 ls []) := by
  obtain ⟨hx, hb, hml, hown, hts⟩ := id X
  unfold g_X0_init_0 at hf
  refine lv_aload_n hx hb dX0_init_0 rfl (lv_at hl 0 rfl) ?_
  refine z_obj X (by rw [hml]; exact hl.1.symm) ob_X0_init.1 ob_X0_init.2 (Nat.le_of_ble_eq_true rfl) (Nat.le_of_ble_eq_true rfl) dX0_init_1 ?_
  refine lv_aload_n hx hb dX0_init_4 rfl (lv_at hl 0 rfl) ?_
  refine lv_bipush (v := (64 : Int32)) hx hb dX0_init_5 (by decide) ?_
  obtain ⟨cd, hf⟩ := m_chkPE hf
  obtain ⟨hcm, ho⟩ := hf
  refine z_newI X hM ar_X0_init_int cd.1 cd.2 ⟨by show kc - (C) + 1 ≤ kc; omega, by show kt - (T) + _ ≤ kt; omega⟩ dX0_init_7 (fun q1 H hq hM => ?_)
  replace hf := ho q1 hq
  refine z_eqCS (c2 := kc - (C - 1)) (t2 := kt - (T - ((64 : Int32)).toNatClampNeg)) (by omega) (by omega) ?_
  replace hCT : C - 1 ≤ kc ∧ T - ((64 : Int32)).toNatClampNeg ≤ kt := by omega
  generalize C - 1 = C3 at hf hCT ⊢
  generalize T - ((64 : Int32)).toNatClampNeg = T4 at hf hCT ⊢
  obtain ⟨S2, ev, hf⟩ := m_bndPE hf
  replace hM := z_hS hM ev
  clear ev ho hcm cd hq
  obtain ⟨ca, hf⟩ := m_chkPE hf
  replace ca := z_in hM (by decide) ca
  refine z_putPF (k := 0) (j := 0) (C := RX0) (T := TX0) (N := 7) (fl := zf_0) (ty := tyX0 0) X hw_X0_init_0 tyX0_ok nmX0 hM rfl zc_0 ca (by decide) fl_X0_init_0_0 rfl hin rfl (tyX0_ok 0 (by decide)) rfl rfl zp_0_0 (Nat.le_of_ble_eq_true rfl) dX0_init_9 (fun H locs hM => ?_)
  clear ca
  obtain ⟨S5, ev, hf⟩ := m_bndPE hf
  replace hM := z_hS hM ev
  clear ev
  refine lv_aload_n hx hb dX0_init_12 rfl (lv_at hl 0 rfl) ?_
  refine lv_iconst (v := (4 : Int32)) hx hb dX0_init_13 (by decide) ?_
  obtain ⟨ca, hf⟩ := m_chkPE hf
  replace ca := z_in hM (by decide) ca
  refine z_putI (k := 0) (j := 1) (C := RX0) (T := TX0) (N := 7) (fl := zf_0) (ty := .int) X hw_X0_init_0 tyX0_ok nmX0 hM rfl zc_0 ca (by decide) fl_X0_init_0_1 rfl (tyX0_ok 1 (by decide)) rfl rfl zi_0_1 (Nat.le_of_ble_eq_true rfl) dX0_init_14 (fun H locs hM => ?_)
  clear ca
  obtain ⟨S6, ev, hf⟩ := m_bndPE hf
  replace hM := z_hS hM ev
  clear ev
  refine lv_aload_n hx hb dX0_init_17 rfl (lv_at hl 0 rfl) ?_
  refine lv_bipush (v := (60 : Int32)) hx hb dX0_init_18 (by decide) ?_
  obtain ⟨ca, hf⟩ := m_chkPE hf
  replace ca := z_in hM (by decide) ca
  refine z_putI (k := 0) (j := 2) (C := RX0) (T := TX0) (N := 7) (fl := zf_0) (ty := .int) X hw_X0_init_0 tyX0_ok nmX0 hM rfl zc_0 ca (by decide) fl_X0_init_0_2 rfl (tyX0_ok 2 (by decide)) rfl rfl zi_0_2 (Nat.le_of_ble_eq_true rfl) dX0_init_20 (fun H locs hM => ?_)
  clear ca
  obtain ⟨S7, ev, hf⟩ := m_bndPE hf
  replace hM := z_hS hM ev
  clear ev
  refine lv_aload_n hx hb dX0_init_23 rfl (lv_at hl 0 rfl) ?_
  refine lv_iconst (v := (0 : Int32)) hx hb dX0_init_24 (by decide) ?_
  obtain ⟨ca, hf⟩ := m_chkPE hf
  replace ca := z_in hM (by decide) ca
  refine z_putI (k := 0) (j := 3) (C := RX0) (T := TX0) (N := 7) (fl := zf_0) (ty := .int) X hw_X0_init_0 tyX0_ok nmX0 hM rfl zc_0 ca (by decide) fl_X0_init_0_3 rfl (tyX0_ok 3 (by decide)) rfl rfl zi_0_3 (Nat.le_of_ble_eq_true rfl) dX0_init_25 (fun H locs hM => ?_)
  clear ca
  obtain ⟨S8, ev, hf⟩ := m_bndPE hf
  replace hM := z_hS hM ev
  clear ev
  refine lv_aload_n hx hb dX0_init_28 rfl (lv_at hl 0 rfl) ?_
  refine lv_iconst (v := (0 : Int32)) hx hb dX0_init_29 (by decide) ?_
  obtain ⟨ca, hf⟩ := m_chkPE hf
  replace ca := z_in hM (by decide) ca
  refine z_putI (k := 0) (j := 4) (C := RX0) (T := TX0) (N := 7) (fl := zf_0) (ty := .int) X hw_X0_init_0 tyX0_ok nmX0 hM rfl zc_0 ca (by decide) fl_X0_init_0_4 rfl (tyX0_ok 4 (by decide)) rfl rfl zi_0_4 (Nat.le_of_ble_eq_true rfl) dX0_init_30 (fun H locs hM => ?_)
  clear ca
  obtain ⟨S9, ev, hf⟩ := m_bndPE hf
  replace hM := z_hS hM ev
  clear ev
  refine lv_aload_n hx hb dX0_init_33 rfl (lv_at hl 0 rfl) ?_
  refine lv_iconst (v := (-1 : Int32)) hx hb dX0_init_34 (by decide) ?_
  obtain ⟨ca, hf⟩ := m_chkPE hf
  replace ca := z_in hM (by decide) ca
  refine z_putI (k := 0) (j := 5) (C := RX0) (T := TX0) (N := 7) (fl := zf_0) (ty := .int) X hw_X0_init_0 tyX0_ok nmX0 hM rfl zc_0 ca (by decide) fl_X0_init_0_5 rfl (tyX0_ok 5 (by decide)) rfl rfl zi_0_5 (Nat.le_of_ble_eq_true rfl) dX0_init_35 (fun H locs hM => ?_)
  clear ca
  obtain ⟨S10, ev, hf⟩ := m_bndPE hf
  replace hM := z_hS hM ev
  clear ev
  refine lv_aload_n hx hb dX0_init_38 rfl (lv_at hl 0 rfl) ?_
  refine lv_iconst (v := (1 : Int32)) hx hb dX0_init_39 (by decide) ?_
  obtain ⟨ca, hf⟩ := m_chkPE hf
  replace ca := z_in hM (by decide) ca
  refine z_putI (k := 0) (j := 6) (C := RX0) (T := TX0) (N := 7) (fl := zf_0) (ty := .int) X hw_X0_init_0 tyX0_ok nmX0 hM rfl zc_0 ca (by decide) fl_X0_init_0_6 rfl (tyX0_ok 6 (by decide)) rfl rfl zi_0_6 (Nat.le_of_ble_eq_true rfl) dX0_init_40 (fun H locs hM => ?_)
  clear ca
  obtain ⟨S11, ev, hf⟩ := m_bndPE hf
  replace hM := z_hS hM ev
  clear ev
  exact hret _ _ _ H locs _ ls hf hM dX0_init_43
noncomputable def g_X0_init (x0 : Nat) (S : ZS) (mc ms : Nat) (Pw : Int32 → ZS → Prop) : Prop := g_X0_init_0 Pw x0 S mc ms
theorem c_X0_init {l : Launch} {D : va_G} {y : Nat → ClassId} {x0 : Nat} {S : ZS} {kc kt : Nat} {Pw : Int32 → ZS → Prop} (hf : g_X0_init x0 S kc kt Pw) : zWv l yX0_init wsX0_init ({ frames := 1, cells := kc, slots := kt, locals := 24 } : Room) [.ref (zh y x0)] D y S kc kt Pw :=
  z_wentC (own := RX0) (cc := cX0_init) (maxL := 1) (by decide) rfl rfl (Nat.le_of_ble_eq_true rfl) ⟨rfl, rfl⟩ rfl (fun p e s m args below meth c A0 Q H locs ls X hin hret hM hl => w_X0_init_0 X hin hret hf ⟨Nat.le_refl _, Nat.le_refl _⟩ hM (lv_sub hl [0] rfl))
theorem hd_X0_wipe : yX0_wipe.cls = RX0 ∧ yX0_wipe.cls ≠ "java/lang/invoke/MethodHandle" ∧ yX0_wipe.cls ≠ "java/lang/invoke/VarHandle" ∧ (parseMethodDescriptor yX0_wipe.desc).map (fun d => d.parameters.length) = some 0 := by decide +kernel
theorem fl_X0_wipe_0_0 : Cond.fieldLink RX0 9 "MoveTexts$Board" "men" "[I" ∈ wsX0_wipe := by decide +kernel
theorem fl_X0_wipe_0_3 : Cond.fieldLink RX0 22 "MoveTexts$Board" "side" "I" ∈ wsX0_wipe := by decide +kernel
theorem fl_X0_wipe_0_4 : Cond.fieldLink RX0 25 "MoveTexts$Board" "rights" "I" ∈ wsX0_wipe := by decide +kernel
theorem fl_X0_wipe_0_5 : Cond.fieldLink RX0 28 "MoveTexts$Board" "passed" "I" ∈ wsX0_wipe := by decide +kernel
theorem fl_X0_wipe_0_6 : Cond.fieldLink RX0 31 "MoveTexts$Board" "number" "I" ∈ wsX0_wipe := by decide +kernel
theorem hw_X0_wipe_0 : ∀ w ∈ wsX00, w ∈ wsX0_wipe := by decide +kernel
noncomputable def f_X0_wipe_2s (self2 : Nat → Int32 → ZS → Option (Int32 × ZS)) (x0 : Nat) (x1 : Int32) (S : ZS) : Option (Int32 × ZS) :=
  m_if ((64 : Int32) ≤ x1) (
  m_chk (zK S x0 = 0) (
  m_bnd (zsI S 3 x0 (0 : Int32)) (fun S1 =>
  m_chk (zK S1 x0 = 0) (
  m_bnd (zsI S1 4 x0 (0 : Int32)) (fun S2 =>
  m_chk (zK S2 x0 = 0) (
  m_bnd (zsI S2 5 x0 (-1 : Int32)) (fun S3 =>
  m_chk (zK S3 x0 = 0) (
  m_bnd (zsI S3 6 x0 (1 : Int32)) (fun S4 =>
  some (0, S4)))))))))
  ) (
  m_chk (zK S x0 = 0) (
  m_cal (zP S 0 x0) (fun b5 =>
  m_chk (zK S b5 = 14) (
  m_chk (¬ (x1 < 0 ∨ zN S b5 ≤ (x1).toNatClampNeg)) (
  m_bnd (zsA S b5 (x1).toNatClampNeg (0 : Int32)) (fun S6 =>
  m_bnd (x1 + (1 : Int32)) (fun v7 =>
  self2 x0 v7 S6))))))
  )

set_option maxRecDepth 100000 in
set_option maxHeartbeats 4000000 in
theorem ws_X0_wipe_2 {p : Program} {l : Launch} {e : Env} {s : State} {m : MethodId} {args : Array Value} {below : List Frame} {meth : Method} {c : Code} {Q : State → Prop} {D : va_G} {y : Nat → ClassId} {A0 : Nat → Prop} {o : Int32 × ZS} (X : CallFix p m c cX0_wipe 2 s args wsX0_wipe RX0) (hret : zRv p l e ({ frames := 0, cells := 0, slots := 0, locals := 0 } : Room) s m args below meth c Q cX0_wipe D y A0 o) {self2 : Nat → Int32 → ZS → Option (Int32 × ZS)} (hself2 : ∀ (x0 : Nat) (x1 : Int32) (S : ZS) (H : Heap) (locs : List Loc) (ls : Array Slot), self2 x0 x1 S = some o → zH D y A0 s H locs S → lv_has ls 2 [(0, .ref (zh y x0)), (1, .int x1)] → W p l e ({ frames := 0, cells := 0, slots := 0, locals := 0 } : Room) s m args below meth c H locs 0 0 Q (F0 m 2 ls [])) {x0 : Nat} {x1 : Int32} {S : ZS} {H : Heap} {locs : List Loc} {ls : Array Slot} (hf : f_X0_wipe_2s self2 x0 x1 S = some o) (hM : zH D y A0 s H locs S) (hl : lv_has ls 2 [(0, .ref (zh y x0)), (1, .int x1)]) : W p l e ({ frames := 0, cells := 0, slots := 0, locals := 0 } : Room) s m args below meth c H locs 0 0 Q (F0 m 2 ls []) := by
  obtain ⟨hx, hb, hml, hown, hts⟩ := id X
  unfold f_X0_wipe_2s at hf
  refine lv_iload_n hx hb dX0_wipe_2 rfl (lv_at hl 1 rfl) ?_
  refine lv_bipush (v := (64 : Int32)) hx hb dX0_wipe_3 (by decide) ?_
  refine lv_icmp_ge (tgt := 21) hx hb dX0_wipe_5 (by decide) (fun cc1 => ?_) (fun cc1 => ?_)
  · replace hf := m_ifT hf cc1
    refine lv_aload_n hx hb dX0_wipe_21 rfl (lv_at hl 0 rfl) ?_
    refine lv_iconst (v := (0 : Int32)) hx hb dX0_wipe_22 (by decide) ?_
    obtain ⟨ca, hf⟩ := m_chkE hf
    replace ca := z_in hM (by decide) ca
    refine z_putI (k := 0) (j := 3) (C := RX0) (T := TX0) (N := 7) (fl := zf_0) (ty := .int) X hw_X0_wipe_0 tyX0_ok nmX0 hM rfl zc_0 ca (by decide) fl_X0_wipe_0_3 rfl (tyX0_ok 3 (by decide)) rfl rfl zi_0_3 (Nat.le_of_ble_eq_true rfl) dX0_wipe_23 (fun H locs hM => ?_)
    clear ca
    obtain ⟨S1, ev, hf⟩ := m_bndE hf
    replace hM := z_hS hM ev
    clear ev
    refine lv_aload_n hx hb dX0_wipe_26 rfl (lv_at hl 0 rfl) ?_
    refine lv_iconst (v := (0 : Int32)) hx hb dX0_wipe_27 (by decide) ?_
    obtain ⟨ca, hf⟩ := m_chkE hf
    replace ca := z_in hM (by decide) ca
    refine z_putI (k := 0) (j := 4) (C := RX0) (T := TX0) (N := 7) (fl := zf_0) (ty := .int) X hw_X0_wipe_0 tyX0_ok nmX0 hM rfl zc_0 ca (by decide) fl_X0_wipe_0_4 rfl (tyX0_ok 4 (by decide)) rfl rfl zi_0_4 (Nat.le_of_ble_eq_true rfl) dX0_wipe_28 (fun H locs hM => ?_)
    clear ca
    obtain ⟨S2, ev, hf⟩ := m_bndE hf
    replace hM := z_hS hM ev
    clear ev
    refine lv_aload_n hx hb dX0_wipe_31 rfl (lv_at hl 0 rfl) ?_
    refine lv_iconst (v := (-1 : Int32)) hx hb dX0_wipe_32 (by decide) ?_
    obtain ⟨ca, hf⟩ := m_chkE hf
    replace ca := z_in hM (by decide) ca
    refine z_putI (k := 0) (j := 5) (C := RX0) (T := TX0) (N := 7) (fl := zf_0) (ty := .int) X hw_X0_wipe_0 tyX0_ok nmX0 hM rfl zc_0 ca (by decide) fl_X0_wipe_0_5 rfl (tyX0_ok 5 (by decide)) rfl rfl zi_0_5 (Nat.le_of_ble_eq_true rfl) dX0_wipe_33 (fun H locs hM => ?_)
    clear ca
    obtain ⟨S3, ev, hf⟩ := m_bndE hf
    replace hM := z_hS hM ev
    clear ev
    refine lv_aload_n hx hb dX0_wipe_36 rfl (lv_at hl 0 rfl) ?_
    refine lv_iconst (v := (1 : Int32)) hx hb dX0_wipe_37 (by decide) ?_
    obtain ⟨ca, hf⟩ := m_chkE hf
    replace ca := z_in hM (by decide) ca
    refine z_putI (k := 0) (j := 6) (C := RX0) (T := TX0) (N := 7) (fl := zf_0) (ty := .int) X hw_X0_wipe_0 tyX0_ok nmX0 hM rfl zc_0 ca (by decide) fl_X0_wipe_0_6 rfl (tyX0_ok 6 (by decide)) rfl rfl zi_0_6 (Nat.le_of_ble_eq_true rfl) dX0_wipe_38 (fun H locs hM => ?_)
    clear ca
    obtain ⟨S4, ev, hf⟩ := m_bndE hf
    replace hM := z_hS hM ev
    clear ev
    cases hf
    exact hret H locs _ ls hM dX0_wipe_41
  · replace hf := m_ifF hf cc1
    refine lv_aload_n hx hb dX0_wipe_8 rfl (lv_at hl 0 rfl) ?_
    obtain ⟨ca, hf⟩ := m_chkE hf
    replace ca := z_in hM (by decide) ca
    refine z_get (k := 0) (j := 0) (C := RX0) (T := TX0) (N := 7) (fl := zf_0) (v := va_rf ((zP S 0 x0).map (zh y))) X hw_X0_wipe_0 hM rfl zc_0 ca (by decide) fl_X0_wipe_0_0 rfl dX0_wipe_9 ?_
    clear ca
    obtain ⟨b5, hb9, hf⟩ := m_calE hf
    refine z_topr hb9 ?_
    clear hb9
    refine lv_iload_n hx hb dX0_wipe_12 rfl (lv_at hl 1 rfl) ?_
    refine lv_iconst (v := (0 : Int32)) hx hb dX0_wipe_13 (by decide) ?_
    obtain ⟨ca, hf⟩ := m_chkE hf
    replace ca := z_in hM (by decide) ca
    obtain ⟨cd, hf⟩ := m_chkE hf
    refine z_iast X hM ca cd dX0_wipe_14 (fun H locs hM => ?_)
    clear ca cd
    obtain ⟨S6, ev, hf⟩ := m_bndE hf
    replace hM := z_hS hM ev
    clear ev
    obtain ⟨v7, ev, hf⟩ := m_bndE hf
    refine lv_iinc (v := v7) (lv' := [(1, .int v7), (0, .ref (zh y x0))]) hx hb dX0_wipe_15 hl (k := 1) rfl (by rw [ev]; rfl) (by decide) rfl (fun ls hl => ?_)
    clear ev
    refine lv_goto (tgt := 2) hx hb dX0_wipe_18 (by decide) ?_
    exact hself2 x0 v7 _ _ _ _ hf hM (lv_sub hl [1, 0] rfl)
noncomputable def f_X0_wipe_2 : Nat → Nat → Int32 → ZS → Option (Int32 × ZS)
  | 0 => fun _ _ _ => none
  | n + 1 => f_X0_wipe_2s (f_X0_wipe_2 n)
theorem w_X0_wipe_2 {p : Program} {l : Launch} {e : Env} {s : State} {m : MethodId} {args : Array Value} {below : List Frame} {meth : Method} {c : Code} {Q : State → Prop} {D : va_G} {y : Nat → ClassId} {A0 : Nat → Prop} {o : Int32 × ZS} (X : CallFix p m c cX0_wipe 2 s args wsX0_wipe RX0) (hret : zRv p l e ({ frames := 0, cells := 0, slots := 0, locals := 0 } : Room) s m args below meth c Q cX0_wipe D y A0 o) (n : Nat) : ∀ (x0 : Nat) (x1 : Int32) (S : ZS) (H : Heap) (locs : List Loc) (ls : Array Slot), f_X0_wipe_2 n x0 x1 S = some o → zH D y A0 s H locs S → lv_has ls 2 [(0, .ref (zh y x0)), (1, .int x1)] → W p l e ({ frames := 0, cells := 0, slots := 0, locals := 0 } : Room) s m args below meth c H locs 0 0 Q (F0 m 2 ls []) := by
  induction n with
  | zero => intro x0 x1 S H locs ls hf; cases hf
  | succ n ih => intro x0 x1 S H locs ls hf hM hl; exact ws_X0_wipe_2 X hret (self2 := f_X0_wipe_2 n) ih hf hM hl
noncomputable def f_X0_wipe_0 (x0 : Nat) (S : ZS) : Option (Int32 × ZS) :=
  f_X0_wipe_2 mFuel x0 (0 : Int32) S

set_option maxRecDepth 100000 in
set_option maxHeartbeats 4000000 in
theorem w_X0_wipe_0 {p : Program} {l : Launch} {e : Env} {s : State} {m : MethodId} {args : Array Value} {below : List Frame} {meth : Method} {c : Code} {Q : State → Prop} {D : va_G} {y : Nat → ClassId} {A0 : Nat → Prop} {o : Int32 × ZS} (X : CallFix p m c cX0_wipe 2 s args wsX0_wipe RX0) (hret : zRv p l e ({ frames := 0, cells := 0, slots := 0, locals := 0 } : Room) s m args below meth c Q cX0_wipe D y A0 o) {x0 : Nat} {S : ZS} {H : Heap} {locs : List Loc} {ls : Array Slot} (hf : f_X0_wipe_0 x0 S = some o) (hM : zH D y A0 s H locs S) (hl : lv_has ls 2 [(0, .ref (zh y x0))]) : W p l e ({ frames := 0, cells := 0, slots := 0, locals := 0 } : Room) s m args below meth c H locs 0 0 Q (F0 m 0 ls []) := by
  obtain ⟨hx, hb, hml, hown, hts⟩ := id X
  unfold f_X0_wipe_0 at hf
  refine lv_iconst (v := (0 : Int32)) hx hb dX0_wipe_0 (by decide) ?_
  refine lv_istore_n (lv' := [(1, .int (0 : Int32)), (0, .ref (zh y x0))]) hx hb dX0_wipe_1 rfl hl (by decide) rfl (fun ls hl => ?_)
  exact w_X0_wipe_2 X hret _ x0 (0 : Int32) _ _ _ _ hf hM (lv_sub hl [1, 0] rfl)
noncomputable def f_X0_wipe (x0 : Nat) (S : ZS) : Option (Int32 × ZS) := f_X0_wipe_0 x0 S
theorem c_X0_wipe {l : Launch} {D : va_G} {y : Nat → ClassId} {x0 : Nat} {S : ZS} {o : Int32 × ZS} (hf : f_X0_wipe x0 S = some o) : zMv l yX0_wipe wsX0_wipe ({ frames := 0, cells := 0, slots := 0, locals := 0 } : Room) [.ref (zh y x0)] D y S o :=
  z_entryV (own := RX0) (cc := cX0_wipe) (maxL := 2) (by decide) rfl rfl (Nat.le_of_ble_eq_true rfl) (fun p e s m args below meth c A0 Q H locs ls X hret hM hl => w_X0_wipe_0 X hret hf hM (lv_sub hl [0] rfl))
theorem hd_X0_put : yX0_put.cls = RX0 ∧ yX0_put.cls ≠ "java/lang/invoke/MethodHandle" ∧ yX0_put.cls ≠ "java/lang/invoke/VarHandle" ∧ (parseMethodDescriptor yX0_put.desc).map (fun d => d.parameters.length) = some 2 := by decide +kernel
theorem fl_X0_put_0_0 : Cond.fieldLink RX0 9 "MoveTexts$Board" "men" "[I" ∈ wsX0_put := by decide +kernel
theorem fl_X0_put_0_1 : Cond.fieldLink RX0 15 "MoveTexts$Board" "whiteKing" "I" ∈ wsX0_put := by decide +kernel
theorem fl_X0_put_0_2 : Cond.fieldLink RX0 19 "MoveTexts$Board" "blackKing" "I" ∈ wsX0_put := by decide +kernel
theorem hw_X0_put_0 : ∀ w ∈ wsX00, w ∈ wsX0_put := by decide +kernel
noncomputable def f_X0_put_32 (S : ZS) : Option (Int32 × ZS) :=
  some (0, S)

set_option maxRecDepth 100000 in
set_option maxHeartbeats 4000000 in
theorem w_X0_put_32 {p : Program} {l : Launch} {e : Env} {s : State} {m : MethodId} {args : Array Value} {below : List Frame} {meth : Method} {c : Code} {Q : State → Prop} {D : va_G} {y : Nat → ClassId} {A0 : Nat → Prop} {o : Int32 × ZS} (X : CallFix p m c cX0_put 3 s args wsX0_put RX0) (hret : zRv p l e ({ frames := 0, cells := 0, slots := 0, locals := 0 } : Room) s m args below meth c Q cX0_put D y A0 o) {S : ZS} {H : Heap} {locs : List Loc} {ls : Array Slot} (hf : f_X0_put_32  S = some o) (hM : zH D y A0 s H locs S) (hl : lv_has ls 3 []) : W p l e ({ frames := 0, cells := 0, slots := 0, locals := 0 } : Room) s m args below meth c H locs 0 0 Q (F0 m 32 ls []) := by
  obtain ⟨hx, hb, hml, hown, hts⟩ := id X
  unfold f_X0_put_32 at hf
  cases hf
  exact hret H locs _ ls hM dX0_put_32
noncomputable def f_X0_put_0 (x0 : Nat) (x1 : Int32) (x2 : Int32) (S : ZS) : Option (Int32 × ZS) :=
  m_chk (zK S x0 = 0) (
  m_cal (zP S 0 x0) (fun b1 =>
  m_chk (zK S b1 = 14) (
  m_chk (¬ (x1 < 0 ∨ zN S b1 ≤ (x1).toNatClampNeg)) (
  m_bnd (zsA S b1 (x1).toNatClampNeg x2) (fun S2 =>
  m_if (x2 = (6 : Int32)) (
  m_chk (zK S2 x0 = 0) (
  m_bnd (zsI S2 1 x0 x1) (fun S4 =>
  f_X0_put_32  S4))
  ) (
  m_if (x2 = (14 : Int32)) (
  m_chk (zK S2 x0 = 0) (
  m_bnd (zsI S2 2 x0 x1) (fun S3 =>
  f_X0_put_32  S3))
  ) (
  f_X0_put_32  S2
  )
  ))))))

set_option maxRecDepth 100000 in
set_option maxHeartbeats 4000000 in
theorem w_X0_put_0 {p : Program} {l : Launch} {e : Env} {s : State} {m : MethodId} {args : Array Value} {below : List Frame} {meth : Method} {c : Code} {Q : State → Prop} {D : va_G} {y : Nat → ClassId} {A0 : Nat → Prop} {o : Int32 × ZS} (X : CallFix p m c cX0_put 3 s args wsX0_put RX0) (hret : zRv p l e ({ frames := 0, cells := 0, slots := 0, locals := 0 } : Room) s m args below meth c Q cX0_put D y A0 o) {x0 : Nat} {x1 : Int32} {x2 : Int32} {S : ZS} {H : Heap} {locs : List Loc} {ls : Array Slot} (hf : f_X0_put_0 x0 x1 x2 S = some o) (hM : zH D y A0 s H locs S) (hl : lv_has ls 3 [(0, .ref (zh y x0)), (1, .int x1), (2, .int x2)]) : W p l e ({ frames := 0, cells := 0, slots := 0, locals := 0 } : Room) s m args below meth c H locs 0 0 Q (F0 m 0 ls []) := by
  obtain ⟨hx, hb, hml, hown, hts⟩ := id X
  unfold f_X0_put_0 at hf
  refine lv_aload_n hx hb dX0_put_0 rfl (lv_at hl 0 rfl) ?_
  obtain ⟨ca, hf⟩ := m_chkE hf
  replace ca := z_in hM (by decide) ca
  refine z_get (k := 0) (j := 0) (C := RX0) (T := TX0) (N := 7) (fl := zf_0) (v := va_rf ((zP S 0 x0).map (zh y))) X hw_X0_put_0 hM rfl zc_0 ca (by decide) fl_X0_put_0_0 rfl dX0_put_1 ?_
  clear ca
  obtain ⟨b1, hb9, hf⟩ := m_calE hf
  refine z_topr hb9 ?_
  clear hb9
  refine lv_iload_n hx hb dX0_put_4 rfl (lv_at hl 1 rfl) ?_
  refine lv_iload_n hx hb dX0_put_5 rfl (lv_at hl 2 rfl) ?_
  obtain ⟨ca, hf⟩ := m_chkE hf
  replace ca := z_in hM (by decide) ca
  obtain ⟨cd, hf⟩ := m_chkE hf
  refine z_iast X hM ca cd dX0_put_6 (fun H locs hM => ?_)
  clear ca cd
  obtain ⟨S2, ev, hf⟩ := m_bndE hf
  replace hM := z_hS hM ev
  clear ev
  refine lv_iload_n hx hb dX0_put_7 rfl (lv_at hl 2 rfl) ?_
  refine lv_bipush (v := (6 : Int32)) hx hb dX0_put_8 (by decide) ?_
  refine lv_icmp_ne (tgt := 21) hx hb dX0_put_10 (by decide) (fun cc1 => ?_) (fun cc1 => ?_)
  · replace hf := m_ifF hf cc1
    refine lv_iload_n hx hb dX0_put_21 rfl (lv_at hl 2 rfl) ?_
    refine lv_bipush (v := (14 : Int32)) hx hb dX0_put_22 (by decide) ?_
    refine lv_icmp_ne (tgt := 32) hx hb dX0_put_24 (by decide) (fun cc1 => ?_) (fun cc1 => ?_)
    · replace hf := m_ifF hf cc1
      exact w_X0_put_32 X hret hf hM (lv_sub hl [] rfl)
    · replace hf := m_ifT hf cc1
      refine lv_aload_n hx hb dX0_put_27 rfl (lv_at hl 0 rfl) ?_
      refine lv_iload_n hx hb dX0_put_28 rfl (lv_at hl 1 rfl) ?_
      obtain ⟨ca, hf⟩ := m_chkE hf
      replace ca := z_in hM (by decide) ca
      refine z_putI (k := 0) (j := 2) (C := RX0) (T := TX0) (N := 7) (fl := zf_0) (ty := .int) X hw_X0_put_0 tyX0_ok nmX0 hM rfl zc_0 ca (by decide) fl_X0_put_0_2 rfl (tyX0_ok 2 (by decide)) rfl rfl zi_0_2 (Nat.le_of_ble_eq_true rfl) dX0_put_29 (fun H locs hM => ?_)
      clear ca
      obtain ⟨S3, ev, hf⟩ := m_bndE hf
      replace hM := z_hS hM ev
      clear ev
      exact w_X0_put_32 X hret hf hM (lv_sub hl [] rfl)
  · replace hf := m_ifT hf cc1
    refine lv_aload_n hx hb dX0_put_13 rfl (lv_at hl 0 rfl) ?_
    refine lv_iload_n hx hb dX0_put_14 rfl (lv_at hl 1 rfl) ?_
    obtain ⟨ca, hf⟩ := m_chkE hf
    replace ca := z_in hM (by decide) ca
    refine z_putI (k := 0) (j := 1) (C := RX0) (T := TX0) (N := 7) (fl := zf_0) (ty := .int) X hw_X0_put_0 tyX0_ok nmX0 hM rfl zc_0 ca (by decide) fl_X0_put_0_1 rfl (tyX0_ok 1 (by decide)) rfl rfl zi_0_1 (Nat.le_of_ble_eq_true rfl) dX0_put_15 (fun H locs hM => ?_)
    clear ca
    obtain ⟨S4, ev, hf⟩ := m_bndE hf
    replace hM := z_hS hM ev
    clear ev
    refine lv_goto (tgt := 32) hx hb dX0_put_18 (by decide) ?_
    exact w_X0_put_32 X hret hf hM (lv_sub hl [] rfl)
noncomputable def f_X0_put (x0 : Nat) (x1 : Int32) (x2 : Int32) (S : ZS) : Option (Int32 × ZS) := f_X0_put_0 x0 x1 x2 S
theorem c_X0_put {l : Launch} {D : va_G} {y : Nat → ClassId} {x0 : Nat} {x1 : Int32} {x2 : Int32} {S : ZS} {o : Int32 × ZS} (hf : f_X0_put x0 x1 x2 S = some o) : zMv l yX0_put wsX0_put ({ frames := 0, cells := 0, slots := 0, locals := 0 } : Room) [.ref (zh y x0), .int x1, .int x2] D y S o :=
  z_entryV (own := RX0) (cc := cX0_put) (maxL := 3) (by decide) rfl rfl (Nat.le_of_ble_eq_true rfl) (fun p e s m args below meth c A0 Q H locs ls X hret hM hl => w_X0_put_0 X hret hf hM (lv_sub hl [0, 1, 2] rfl))
theorem hd_X0_setUp : yX0_setUp.cls = RX0 ∧ yX0_setUp.cls ≠ "java/lang/invoke/MethodHandle" ∧ yX0_setUp.cls ≠ "java/lang/invoke/VarHandle" ∧ (parseMethodDescriptor yX0_setUp.desc).map (fun d => d.parameters.length) = some 0 := by decide +kernel
theorem fl_X0_setUp_0_4 : Cond.fieldLink RX0 25 "MoveTexts$Board" "rights" "I" ∈ wsX0_setUp := by decide +kernel
theorem gs_X0_setUp_FIRST_RANK : Cond.fieldLink RX0 37 "MoveTexts$Board" "FIRST_RANK" "[I" ∈ wsX0_setUp := by decide +kernel
theorem hw_X0_setUp_0 : ∀ w ∈ wsX00, w ∈ wsX0_setUp := by decide +kernel
noncomputable def f_X0_setUp_6s (self6 : Nat → Int32 → ZS → Option (Int32 × ZS)) (x0 : Nat) (x1 : Int32) (S : ZS) : Option (Int32 × ZS) :=
  m_if ((8 : Int32) ≤ x1) (
  m_chk (zK S x0 = 0) (
  m_bnd (zsI S 4 x0 (15 : Int32)) (fun S1 =>
  some (0, S1)))
  ) (
  m_chk (¬ (x1 < 0 ∨ 8 ≤ (x1).toNatClampNeg)) (
  m_bnd (zFR.getD (x1).toNatClampNeg 0) (fun v2 =>
  m_chk (zK S x0 = 0) (
  m_cal (f_X0_put x0 x1 v2 S) (fun o3 =>
  m_bnd (x1 + (8 : Int32)) (fun v4 =>
  m_chk (zK o3.2 x0 = 0) (
  m_cal (f_X0_put x0 v4 (1 : Int32) o3.2) (fun o5 =>
  m_bnd (x1 + (48 : Int32)) (fun v6 =>
  m_chk (zK o5.2 x0 = 0) (
  m_cal (f_X0_put x0 v6 (9 : Int32) o5.2) (fun o7 =>
  m_bnd (x1 + (56 : Int32)) (fun v8 =>
  m_chk (¬ (x1 < 0 ∨ 8 ≤ (x1).toNatClampNeg)) (
  m_bnd (zFR.getD (x1).toNatClampNeg 0) (fun v9 =>
  m_bnd (v9 + (8 : Int32)) (fun v10 =>
  m_chk (zK o7.2 x0 = 0) (
  m_cal (f_X0_put x0 v8 v10 o7.2) (fun o11 =>
  m_bnd (x1 + (1 : Int32)) (fun v12 =>
  self6 x0 v12 o11.2)))))))))))))))))
  )

set_option maxRecDepth 100000 in
set_option maxHeartbeats 4000000 in
theorem ws_X0_setUp_6 {p : Program} {l : Launch} {e : Env} {s : State} {m : MethodId} {args : Array Value} {below : List Frame} {meth : Method} {c : Code} {Q : State → Prop} {D : va_G} {y : Nat → ClassId} {A0 : Nat → Prop} {o : Int32 × ZS} (X : CallFix p m c cX0_setUp 2 s args wsX0_setUp RX0) (hret : zRv p l e ({ frames := 1, cells := 0, slots := 0, locals := 22 } : Room) s m args below meth c Q cX0_setUp D y A0 o) {self6 : Nat → Int32 → ZS → Option (Int32 × ZS)} (hself6 : ∀ (x0 : Nat) (x1 : Int32) (S : ZS) (H : Heap) (locs : List Loc) (ls : Array Slot), self6 x0 x1 S = some o → zH D y A0 s H locs S → lv_has ls 2 [(0, .ref (zh y x0)), (1, .int x1)] → W p l e ({ frames := 1, cells := 0, slots := 0, locals := 22 } : Room) s m args below meth c H locs 0 0 Q (F0 m 6 ls [])) {x0 : Nat} {x1 : Int32} {S : ZS} {H : Heap} {locs : List Loc} {ls : Array Slot} (hf : f_X0_setUp_6s self6 x0 x1 S = some o) (hM : zH D y A0 s H locs S) (hl : lv_has ls 2 [(0, .ref (zh y x0)), (1, .int x1)]) : W p l e ({ frames := 1, cells := 0, slots := 0, locals := 22 } : Room) s m args below meth c H locs 0 0 Q (F0 m 6 ls []) := by
  obtain ⟨hx, hb, hml, hown, hts⟩ := id X
  unfold f_X0_setUp_6s at hf
  refine lv_iload_n hx hb dX0_setUp_6 rfl (lv_at hl 1 rfl) ?_
  refine lv_bipush (v := (8 : Int32)) hx hb dX0_setUp_7 (by decide) ?_
  refine lv_icmp_ge (tgt := 63) hx hb dX0_setUp_9 (by decide) (fun cc1 => ?_) (fun cc1 => ?_)
  · replace hf := m_ifT hf cc1
    refine lv_aload_n hx hb dX0_setUp_63 rfl (lv_at hl 0 rfl) ?_
    refine lv_bipush (v := (15 : Int32)) hx hb dX0_setUp_64 (by decide) ?_
    obtain ⟨ca, hf⟩ := m_chkE hf
    replace ca := z_in hM (by decide) ca
    refine z_putI (k := 0) (j := 4) (C := RX0) (T := TX0) (N := 7) (fl := zf_0) (ty := .int) X hw_X0_setUp_0 tyX0_ok nmX0 hM rfl zc_0 ca (by decide) fl_X0_setUp_0_4 rfl (tyX0_ok 4 (by decide)) rfl rfl zi_0_4 (Nat.le_of_ble_eq_true rfl) dX0_setUp_66 (fun H locs hM => ?_)
    clear ca
    obtain ⟨S1, ev, hf⟩ := m_bndE hf
    replace hM := z_hS hM ev
    clear ev
    cases hf
    exact hret H locs _ ls hM dX0_setUp_69
  · replace hf := m_ifF hf cc1
    refine lv_aload_n hx hb dX0_setUp_12 rfl (lv_at hl 0 rfl) ?_
    refine lv_iload_n hx hb dX0_setUp_13 rfl (lv_at hl 1 rfl) ?_
    refine z_frank X hM gs_X0_setUp_FIRST_RANK dX0_setUp_14 ?_
    refine lv_iload_n hx hb dX0_setUp_17 rfl (lv_at hl 1 rfl) ?_
    obtain ⟨cd, hf⟩ := m_chkE hf
    refine z_frld X hM cd dX0_setUp_18 ?_
    clear cd
    obtain ⟨v2, ev, hf⟩ := m_bndE hf
    refine m_top ev ?_
    clear ev
    obtain ⟨ca, hf⟩ := m_chkE hf
    replace ca := z_in hM (by decide) ca
    obtain ⟨o3, ho, hf⟩ := m_calE hf
    refine z_callVv (k := 0) (C := RX0) (T := TX0) (N := 7) (fl := zf_0) X hM rfl zc_0 ca (c_X0_put ho) gX0_setUp_X0_put rfl ⟨rfl, rfl⟩ hd_X0_put ⟨Nat.le_of_ble_eq_true rfl, Nat.le_of_ble_eq_true rfl⟩ rfl hl.1 rfl (Nat.le_of_ble_eq_true rfl) dX0_setUp_19 (fun H locs hM => ?_)
    clear ho
    refine lv_aload_n hx hb dX0_setUp_22 rfl (lv_at hl 0 rfl) ?_
    refine lv_iload_n hx hb dX0_setUp_23 rfl (lv_at hl 1 rfl) ?_
    refine lv_bipush (v := (8 : Int32)) hx hb dX0_setUp_24 (by decide) ?_
    refine lv_iadd hx hb dX0_setUp_26 ?_
    obtain ⟨v4, ev, hf⟩ := m_bndE hf
    refine m_top ev ?_
    clear ev
    refine lv_iconst (v := (1 : Int32)) hx hb dX0_setUp_27 (by decide) ?_
    obtain ⟨ca, hf⟩ := m_chkE hf
    replace ca := z_in hM (by decide) ca
    obtain ⟨o5, ho, hf⟩ := m_calE hf
    refine z_callVv (k := 0) (C := RX0) (T := TX0) (N := 7) (fl := zf_0) X hM rfl zc_0 ca (c_X0_put ho) gX0_setUp_X0_put rfl ⟨rfl, rfl⟩ hd_X0_put ⟨Nat.le_of_ble_eq_true rfl, Nat.le_of_ble_eq_true rfl⟩ rfl hl.1 rfl (Nat.le_of_ble_eq_true rfl) dX0_setUp_28 (fun H locs hM => ?_)
    clear ho
    refine lv_aload_n hx hb dX0_setUp_31 rfl (lv_at hl 0 rfl) ?_
    refine lv_iload_n hx hb dX0_setUp_32 rfl (lv_at hl 1 rfl) ?_
    refine lv_bipush (v := (48 : Int32)) hx hb dX0_setUp_33 (by decide) ?_
    refine lv_iadd hx hb dX0_setUp_35 ?_
    obtain ⟨v6, ev, hf⟩ := m_bndE hf
    refine m_top ev ?_
    clear ev
    refine lv_bipush (v := (9 : Int32)) hx hb dX0_setUp_36 (by decide) ?_
    obtain ⟨ca, hf⟩ := m_chkE hf
    replace ca := z_in hM (by decide) ca
    obtain ⟨o7, ho, hf⟩ := m_calE hf
    refine z_callVv (k := 0) (C := RX0) (T := TX0) (N := 7) (fl := zf_0) X hM rfl zc_0 ca (c_X0_put ho) gX0_setUp_X0_put rfl ⟨rfl, rfl⟩ hd_X0_put ⟨Nat.le_of_ble_eq_true rfl, Nat.le_of_ble_eq_true rfl⟩ rfl hl.1 rfl (Nat.le_of_ble_eq_true rfl) dX0_setUp_38 (fun H locs hM => ?_)
    clear ho
    refine lv_aload_n hx hb dX0_setUp_41 rfl (lv_at hl 0 rfl) ?_
    refine lv_iload_n hx hb dX0_setUp_42 rfl (lv_at hl 1 rfl) ?_
    refine lv_bipush (v := (56 : Int32)) hx hb dX0_setUp_43 (by decide) ?_
    refine lv_iadd hx hb dX0_setUp_45 ?_
    obtain ⟨v8, ev, hf⟩ := m_bndE hf
    refine m_top ev ?_
    clear ev
    refine z_frank X hM gs_X0_setUp_FIRST_RANK dX0_setUp_46 ?_
    refine lv_iload_n hx hb dX0_setUp_49 rfl (lv_at hl 1 rfl) ?_
    obtain ⟨cd, hf⟩ := m_chkE hf
    refine z_frld X hM cd dX0_setUp_50 ?_
    clear cd
    obtain ⟨v9, ev, hf⟩ := m_bndE hf
    refine m_top ev ?_
    clear ev
    refine lv_bipush (v := (8 : Int32)) hx hb dX0_setUp_51 (by decide) ?_
    refine lv_iadd hx hb dX0_setUp_53 ?_
    obtain ⟨v10, ev, hf⟩ := m_bndE hf
    refine m_top ev ?_
    clear ev
    obtain ⟨ca, hf⟩ := m_chkE hf
    replace ca := z_in hM (by decide) ca
    obtain ⟨o11, ho, hf⟩ := m_calE hf
    refine z_callVv (k := 0) (C := RX0) (T := TX0) (N := 7) (fl := zf_0) X hM rfl zc_0 ca (c_X0_put ho) gX0_setUp_X0_put rfl ⟨rfl, rfl⟩ hd_X0_put ⟨Nat.le_of_ble_eq_true rfl, Nat.le_of_ble_eq_true rfl⟩ rfl hl.1 rfl (Nat.le_of_ble_eq_true rfl) dX0_setUp_54 (fun H locs hM => ?_)
    clear ho
    obtain ⟨v12, ev, hf⟩ := m_bndE hf
    refine lv_iinc (v := v12) (lv' := [(1, .int v12), (0, .ref (zh y x0))]) hx hb dX0_setUp_57 hl (k := 1) rfl (by rw [ev]; rfl) (by decide) rfl (fun ls hl => ?_)
    clear ev
    refine lv_goto (tgt := 6) hx hb dX0_setUp_60 (by decide) ?_
    exact hself6 x0 v12 _ _ _ _ hf hM (lv_sub hl [1, 0] rfl)
noncomputable def f_X0_setUp_6 : Nat → Nat → Int32 → ZS → Option (Int32 × ZS)
  | 0 => fun _ _ _ => none
  | n + 1 => f_X0_setUp_6s (f_X0_setUp_6 n)
theorem w_X0_setUp_6 {p : Program} {l : Launch} {e : Env} {s : State} {m : MethodId} {args : Array Value} {below : List Frame} {meth : Method} {c : Code} {Q : State → Prop} {D : va_G} {y : Nat → ClassId} {A0 : Nat → Prop} {o : Int32 × ZS} (X : CallFix p m c cX0_setUp 2 s args wsX0_setUp RX0) (hret : zRv p l e ({ frames := 1, cells := 0, slots := 0, locals := 22 } : Room) s m args below meth c Q cX0_setUp D y A0 o) (n : Nat) : ∀ (x0 : Nat) (x1 : Int32) (S : ZS) (H : Heap) (locs : List Loc) (ls : Array Slot), f_X0_setUp_6 n x0 x1 S = some o → zH D y A0 s H locs S → lv_has ls 2 [(0, .ref (zh y x0)), (1, .int x1)] → W p l e ({ frames := 1, cells := 0, slots := 0, locals := 22 } : Room) s m args below meth c H locs 0 0 Q (F0 m 6 ls []) := by
  induction n with
  | zero => intro x0 x1 S H locs ls hf; cases hf
  | succ n ih => intro x0 x1 S H locs ls hf hM hl; exact ws_X0_setUp_6 X hret (self6 := f_X0_setUp_6 n) ih hf hM hl
noncomputable def f_X0_setUp_0 (x0 : Nat) (S : ZS) : Option (Int32 × ZS) :=
  m_chk (zK S x0 = 0) (
  m_cal (f_X0_wipe x0 S) (fun o1 =>
  f_X0_setUp_6 mFuel x0 (0 : Int32) o1.2))

set_option maxRecDepth 100000 in
set_option maxHeartbeats 4000000 in
theorem w_X0_setUp_0 {p : Program} {l : Launch} {e : Env} {s : State} {m : MethodId} {args : Array Value} {below : List Frame} {meth : Method} {c : Code} {Q : State → Prop} {D : va_G} {y : Nat → ClassId} {A0 : Nat → Prop} {o : Int32 × ZS} (X : CallFix p m c cX0_setUp 2 s args wsX0_setUp RX0) (hret : zRv p l e ({ frames := 1, cells := 0, slots := 0, locals := 22 } : Room) s m args below meth c Q cX0_setUp D y A0 o) {x0 : Nat} {S : ZS} {H : Heap} {locs : List Loc} {ls : Array Slot} (hf : f_X0_setUp_0 x0 S = some o) (hM : zH D y A0 s H locs S) (hl : lv_has ls 2 [(0, .ref (zh y x0))]) : W p l e ({ frames := 1, cells := 0, slots := 0, locals := 22 } : Room) s m args below meth c H locs 0 0 Q (F0 m 0 ls []) := by
  obtain ⟨hx, hb, hml, hown, hts⟩ := id X
  unfold f_X0_setUp_0 at hf
  refine lv_aload_n hx hb dX0_setUp_0 rfl (lv_at hl 0 rfl) ?_
  obtain ⟨ca, hf⟩ := m_chkE hf
  replace ca := z_in hM (by decide) ca
  obtain ⟨o1, ho, hf⟩ := m_calE hf
  refine z_callVv (k := 0) (C := RX0) (T := TX0) (N := 7) (fl := zf_0) X hM rfl zc_0 ca (c_X0_wipe ho) gX0_setUp_X0_wipe rfl ⟨rfl, rfl⟩ hd_X0_wipe ⟨Nat.le_of_ble_eq_true rfl, Nat.le_of_ble_eq_true rfl⟩ rfl hl.1 rfl (Nat.le_of_ble_eq_true rfl) dX0_setUp_1 (fun H locs hM => ?_)
  clear ho
  refine lv_iconst (v := (0 : Int32)) hx hb dX0_setUp_4 (by decide) ?_
  refine lv_istore_n (lv' := [(1, .int (0 : Int32)), (0, .ref (zh y x0))]) hx hb dX0_setUp_5 rfl hl (by decide) rfl (fun ls hl => ?_)
  exact w_X0_setUp_6 X hret _ x0 (0 : Int32) _ _ _ _ hf hM (lv_sub hl [1, 0] rfl)
noncomputable def f_X0_setUp (x0 : Nat) (S : ZS) : Option (Int32 × ZS) := f_X0_setUp_0 x0 S
theorem c_X0_setUp {l : Launch} {D : va_G} {y : Nat → ClassId} {x0 : Nat} {S : ZS} {o : Int32 × ZS} (hf : f_X0_setUp x0 S = some o) : zMv l yX0_setUp wsX0_setUp ({ frames := 1, cells := 0, slots := 0, locals := 22 } : Room) [.ref (zh y x0)] D y S o :=
  z_entryV (own := RX0) (cc := cX0_setUp) (maxL := 2) (by decide) rfl rfl (Nat.le_of_ble_eq_true rfl) (fun p e s m args below meth c A0 Q H locs ls X hret hM hl => w_X0_setUp_0 X hret hf hM (lv_sub hl [0] rfl))
theorem hd_X0_copyFrom : yX0_copyFrom.cls = RX0 ∧ yX0_copyFrom.cls ≠ "java/lang/invoke/MethodHandle" ∧ yX0_copyFrom.cls ≠ "java/lang/invoke/VarHandle" ∧ (parseMethodDescriptor yX0_copyFrom.desc).map (fun d => d.parameters.length) = some 1 := by decide +kernel
theorem ac_X0_copyFrom : (Cond.methodLink RX0 44 arraycopyName ∈ wsX0_copyFrom ∧ Cond.native arraycopyName ∈ wsX0_copyFrom) ∧ Cond.static arraycopyName ∈ wsX0_copyFrom ∧ Cond.initialized "java/lang/System" ∈ wsX0_copyFrom := by decide +kernel
theorem fl_X0_copyFrom_0_0 : Cond.fieldLink RX0 9 "MoveTexts$Board" "men" "[I" ∈ wsX0_copyFrom := by decide +kernel
theorem fl_X0_copyFrom_0_1 : Cond.fieldLink RX0 15 "MoveTexts$Board" "whiteKing" "I" ∈ wsX0_copyFrom := by decide +kernel
theorem fl_X0_copyFrom_0_2 : Cond.fieldLink RX0 19 "MoveTexts$Board" "blackKing" "I" ∈ wsX0_copyFrom := by decide +kernel
theorem fl_X0_copyFrom_0_3 : Cond.fieldLink RX0 22 "MoveTexts$Board" "side" "I" ∈ wsX0_copyFrom := by decide +kernel
theorem fl_X0_copyFrom_0_4 : Cond.fieldLink RX0 25 "MoveTexts$Board" "rights" "I" ∈ wsX0_copyFrom := by decide +kernel
theorem fl_X0_copyFrom_0_5 : Cond.fieldLink RX0 28 "MoveTexts$Board" "passed" "I" ∈ wsX0_copyFrom := by decide +kernel
theorem fl_X0_copyFrom_0_6 : Cond.fieldLink RX0 31 "MoveTexts$Board" "number" "I" ∈ wsX0_copyFrom := by decide +kernel
theorem hw_X0_copyFrom_0 : ∀ w ∈ wsX00, w ∈ wsX0_copyFrom := by decide +kernel
noncomputable def f_X0_copyFrom_0 (x0 : Nat) (x1 : Nat) (S : ZS) : Option (Int32 × ZS) :=
  m_chk (zK S x1 = 0) (
  m_cal (zP S 0 x1) (fun b1 =>
  m_chk (zK S x0 = 0) (
  m_cal (zP S 0 x0) (fun b2 =>
  m_chk (zK S b1 = 14) (
  m_chk (zK S b2 = 14) (
  m_chk (¬ (0 : Int32) < 0 ∧ ¬ (0 : Int32) < 0 ∧ ¬ (64 : Int32) < 0 ∧ ((0 : Int32)).toNatClampNeg + ((64 : Int32)).toNatClampNeg ≤ zN S b1 ∧ ((0 : Int32)).toNatClampNeg + ((64 : Int32)).toNatClampNeg ≤ zN S b2) (
  m_bnd (zsC S b1 b2 ((0 : Int32)).toNatClampNeg ((0 : Int32)).toNatClampNeg ((64 : Int32)).toNatClampNeg) (fun S3 =>
  m_chk (zK S3 x1 = 0) (
  m_chk (zK S3 x0 = 0) (
  m_bnd (zsI S3 1 x0 (zI S3 1 x1)) (fun S4 =>
  m_chk (zK S4 x1 = 0) (
  m_chk (zK S4 x0 = 0) (
  m_bnd (zsI S4 2 x0 (zI S4 2 x1)) (fun S5 =>
  m_chk (zK S5 x1 = 0) (
  m_chk (zK S5 x0 = 0) (
  m_bnd (zsI S5 3 x0 (zI S5 3 x1)) (fun S6 =>
  m_chk (zK S6 x1 = 0) (
  m_chk (zK S6 x0 = 0) (
  m_bnd (zsI S6 4 x0 (zI S6 4 x1)) (fun S7 =>
  m_chk (zK S7 x1 = 0) (
  m_chk (zK S7 x0 = 0) (
  m_bnd (zsI S7 5 x0 (zI S7 5 x1)) (fun S8 =>
  m_chk (zK S8 x1 = 0) (
  m_chk (zK S8 x0 = 0) (
  m_bnd (zsI S8 6 x0 (zI S8 6 x1)) (fun S9 =>
  some (0, S9)))))))))))))))))))))))))))

set_option maxRecDepth 100000 in
set_option maxHeartbeats 4000000 in
theorem w_X0_copyFrom_0 {p : Program} {l : Launch} {e : Env} {s : State} {m : MethodId} {args : Array Value} {below : List Frame} {meth : Method} {c : Code} {Q : State → Prop} {D : va_G} {y : Nat → ClassId} {A0 : Nat → Prop} {o : Int32 × ZS} (X : CallFix p m c cX0_copyFrom 2 s args wsX0_copyFrom RX0) (hret : zRv p l e ({ frames := 1, cells := 0, slots := 0, locals := 60 } : Room) s m args below meth c Q cX0_copyFrom D y A0 o) {x0 : Nat} {x1 : Nat} {S : ZS} {H : Heap} {locs : List Loc} {ls : Array Slot} (hf : f_X0_copyFrom_0 x0 x1 S = some o) (hM : zH D y A0 s H locs S) (hl : lv_has ls 2 [(0, .ref (zh y x0)), (1, .ref (zh y x1))]) : W p l e ({ frames := 1, cells := 0, slots := 0, locals := 60 } : Room) s m args below meth c H locs 0 0 Q (F0 m 0 ls []) := by
  obtain ⟨hx, hb, hml, hown, hts⟩ := id X
  unfold f_X0_copyFrom_0 at hf
  refine lv_aload_n hx hb dX0_copyFrom_0 rfl (lv_at hl 1 rfl) ?_
  obtain ⟨ca, hf⟩ := m_chkE hf
  replace ca := z_in hM (by decide) ca
  refine z_get (k := 0) (j := 0) (C := RX0) (T := TX0) (N := 7) (fl := zf_0) (v := va_rf ((zP S 0 x1).map (zh y))) X hw_X0_copyFrom_0 hM rfl zc_0 ca (by decide) fl_X0_copyFrom_0_0 rfl dX0_copyFrom_1 ?_
  clear ca
  obtain ⟨b1, hb9, hf⟩ := m_calE hf
  refine z_topr hb9 ?_
  clear hb9
  refine lv_iconst (v := (0 : Int32)) hx hb dX0_copyFrom_4 (by decide) ?_
  refine lv_aload_n hx hb dX0_copyFrom_5 rfl (lv_at hl 0 rfl) ?_
  obtain ⟨ca, hf⟩ := m_chkE hf
  replace ca := z_in hM (by decide) ca
  refine z_get (k := 0) (j := 0) (C := RX0) (T := TX0) (N := 7) (fl := zf_0) (v := va_rf ((zP S 0 x0).map (zh y))) X hw_X0_copyFrom_0 hM rfl zc_0 ca (by decide) fl_X0_copyFrom_0_0 rfl dX0_copyFrom_6 ?_
  clear ca
  obtain ⟨b2, hb9, hf⟩ := m_calE hf
  refine z_topr hb9 ?_
  clear hb9
  refine lv_iconst (v := (0 : Int32)) hx hb dX0_copyFrom_9 (by decide) ?_
  refine lv_bipush (v := (64 : Int32)) hx hb dX0_copyFrom_10 (by decide) ?_
  obtain ⟨ca, hf⟩ := m_chkE hf
  replace ca := z_in hM (by decide) ca
  obtain ⟨cb, hf⟩ := m_chkE hf
  replace cb := z_in hM (by decide) cb
  obtain ⟨cd, hf⟩ := m_chkE hf
  refine z_copyi X hM (by rw [hml]; exact hl.1.symm) ac_X0_copyFrom.1 ac_X0_copyFrom.2 ca cb cd (Nat.le_of_ble_eq_true rfl) (Nat.le_of_ble_eq_true rfl) dX0_copyFrom_12 (fun H locs hM => ?_)
  clear ca cb cd
  obtain ⟨S3, ev, hf⟩ := m_bndE hf
  replace hM := z_hS hM ev
  clear ev
  refine lv_aload_n hx hb dX0_copyFrom_15 rfl (lv_at hl 0 rfl) ?_
  refine lv_aload_n hx hb dX0_copyFrom_16 rfl (lv_at hl 1 rfl) ?_
  obtain ⟨ca, hf⟩ := m_chkE hf
  replace ca := z_in hM (by decide) ca
  refine z_get (k := 0) (j := 1) (C := RX0) (T := TX0) (N := 7) (fl := zf_0) (v := .int (zI S3 1 x1)) X hw_X0_copyFrom_0 hM rfl zc_0 ca (by decide) fl_X0_copyFrom_0_1 rfl dX0_copyFrom_17 ?_
  clear ca
  obtain ⟨ca, hf⟩ := m_chkE hf
  replace ca := z_in hM (by decide) ca
  refine z_putI (k := 0) (j := 1) (C := RX0) (T := TX0) (N := 7) (fl := zf_0) (ty := .int) X hw_X0_copyFrom_0 tyX0_ok nmX0 hM rfl zc_0 ca (by decide) fl_X0_copyFrom_0_1 rfl (tyX0_ok 1 (by decide)) rfl rfl zi_0_1 (Nat.le_of_ble_eq_true rfl) dX0_copyFrom_20 (fun H locs hM => ?_)
  clear ca
  obtain ⟨S4, ev, hf⟩ := m_bndE hf
  replace hM := z_hS hM ev
  clear ev
  refine lv_aload_n hx hb dX0_copyFrom_23 rfl (lv_at hl 0 rfl) ?_
  refine lv_aload_n hx hb dX0_copyFrom_24 rfl (lv_at hl 1 rfl) ?_
  obtain ⟨ca, hf⟩ := m_chkE hf
  replace ca := z_in hM (by decide) ca
  refine z_get (k := 0) (j := 2) (C := RX0) (T := TX0) (N := 7) (fl := zf_0) (v := .int (zI S4 2 x1)) X hw_X0_copyFrom_0 hM rfl zc_0 ca (by decide) fl_X0_copyFrom_0_2 rfl dX0_copyFrom_25 ?_
  clear ca
  obtain ⟨ca, hf⟩ := m_chkE hf
  replace ca := z_in hM (by decide) ca
  refine z_putI (k := 0) (j := 2) (C := RX0) (T := TX0) (N := 7) (fl := zf_0) (ty := .int) X hw_X0_copyFrom_0 tyX0_ok nmX0 hM rfl zc_0 ca (by decide) fl_X0_copyFrom_0_2 rfl (tyX0_ok 2 (by decide)) rfl rfl zi_0_2 (Nat.le_of_ble_eq_true rfl) dX0_copyFrom_28 (fun H locs hM => ?_)
  clear ca
  obtain ⟨S5, ev, hf⟩ := m_bndE hf
  replace hM := z_hS hM ev
  clear ev
  refine lv_aload_n hx hb dX0_copyFrom_31 rfl (lv_at hl 0 rfl) ?_
  refine lv_aload_n hx hb dX0_copyFrom_32 rfl (lv_at hl 1 rfl) ?_
  obtain ⟨ca, hf⟩ := m_chkE hf
  replace ca := z_in hM (by decide) ca
  refine z_get (k := 0) (j := 3) (C := RX0) (T := TX0) (N := 7) (fl := zf_0) (v := .int (zI S5 3 x1)) X hw_X0_copyFrom_0 hM rfl zc_0 ca (by decide) fl_X0_copyFrom_0_3 rfl dX0_copyFrom_33 ?_
  clear ca
  obtain ⟨ca, hf⟩ := m_chkE hf
  replace ca := z_in hM (by decide) ca
  refine z_putI (k := 0) (j := 3) (C := RX0) (T := TX0) (N := 7) (fl := zf_0) (ty := .int) X hw_X0_copyFrom_0 tyX0_ok nmX0 hM rfl zc_0 ca (by decide) fl_X0_copyFrom_0_3 rfl (tyX0_ok 3 (by decide)) rfl rfl zi_0_3 (Nat.le_of_ble_eq_true rfl) dX0_copyFrom_36 (fun H locs hM => ?_)
  clear ca
  obtain ⟨S6, ev, hf⟩ := m_bndE hf
  replace hM := z_hS hM ev
  clear ev
  refine lv_aload_n hx hb dX0_copyFrom_39 rfl (lv_at hl 0 rfl) ?_
  refine lv_aload_n hx hb dX0_copyFrom_40 rfl (lv_at hl 1 rfl) ?_
  obtain ⟨ca, hf⟩ := m_chkE hf
  replace ca := z_in hM (by decide) ca
  refine z_get (k := 0) (j := 4) (C := RX0) (T := TX0) (N := 7) (fl := zf_0) (v := .int (zI S6 4 x1)) X hw_X0_copyFrom_0 hM rfl zc_0 ca (by decide) fl_X0_copyFrom_0_4 rfl dX0_copyFrom_41 ?_
  clear ca
  obtain ⟨ca, hf⟩ := m_chkE hf
  replace ca := z_in hM (by decide) ca
  refine z_putI (k := 0) (j := 4) (C := RX0) (T := TX0) (N := 7) (fl := zf_0) (ty := .int) X hw_X0_copyFrom_0 tyX0_ok nmX0 hM rfl zc_0 ca (by decide) fl_X0_copyFrom_0_4 rfl (tyX0_ok 4 (by decide)) rfl rfl zi_0_4 (Nat.le_of_ble_eq_true rfl) dX0_copyFrom_44 (fun H locs hM => ?_)
  clear ca
  obtain ⟨S7, ev, hf⟩ := m_bndE hf
  replace hM := z_hS hM ev
  clear ev
  refine lv_aload_n hx hb dX0_copyFrom_47 rfl (lv_at hl 0 rfl) ?_
  refine lv_aload_n hx hb dX0_copyFrom_48 rfl (lv_at hl 1 rfl) ?_
  obtain ⟨ca, hf⟩ := m_chkE hf
  replace ca := z_in hM (by decide) ca
  refine z_get (k := 0) (j := 5) (C := RX0) (T := TX0) (N := 7) (fl := zf_0) (v := .int (zI S7 5 x1)) X hw_X0_copyFrom_0 hM rfl zc_0 ca (by decide) fl_X0_copyFrom_0_5 rfl dX0_copyFrom_49 ?_
  clear ca
  obtain ⟨ca, hf⟩ := m_chkE hf
  replace ca := z_in hM (by decide) ca
  refine z_putI (k := 0) (j := 5) (C := RX0) (T := TX0) (N := 7) (fl := zf_0) (ty := .int) X hw_X0_copyFrom_0 tyX0_ok nmX0 hM rfl zc_0 ca (by decide) fl_X0_copyFrom_0_5 rfl (tyX0_ok 5 (by decide)) rfl rfl zi_0_5 (Nat.le_of_ble_eq_true rfl) dX0_copyFrom_52 (fun H locs hM => ?_)
  clear ca
  obtain ⟨S8, ev, hf⟩ := m_bndE hf
  replace hM := z_hS hM ev
  clear ev
  refine lv_aload_n hx hb dX0_copyFrom_55 rfl (lv_at hl 0 rfl) ?_
  refine lv_aload_n hx hb dX0_copyFrom_56 rfl (lv_at hl 1 rfl) ?_
  obtain ⟨ca, hf⟩ := m_chkE hf
  replace ca := z_in hM (by decide) ca
  refine z_get (k := 0) (j := 6) (C := RX0) (T := TX0) (N := 7) (fl := zf_0) (v := .int (zI S8 6 x1)) X hw_X0_copyFrom_0 hM rfl zc_0 ca (by decide) fl_X0_copyFrom_0_6 rfl dX0_copyFrom_57 ?_
  clear ca
  obtain ⟨ca, hf⟩ := m_chkE hf
  replace ca := z_in hM (by decide) ca
  refine z_putI (k := 0) (j := 6) (C := RX0) (T := TX0) (N := 7) (fl := zf_0) (ty := .int) X hw_X0_copyFrom_0 tyX0_ok nmX0 hM rfl zc_0 ca (by decide) fl_X0_copyFrom_0_6 rfl (tyX0_ok 6 (by decide)) rfl rfl zi_0_6 (Nat.le_of_ble_eq_true rfl) dX0_copyFrom_60 (fun H locs hM => ?_)
  clear ca
  obtain ⟨S9, ev, hf⟩ := m_bndE hf
  replace hM := z_hS hM ev
  clear ev
  cases hf
  exact hret H locs _ ls hM dX0_copyFrom_63
noncomputable def f_X0_copyFrom (x0 : Nat) (x1 : Nat) (S : ZS) : Option (Int32 × ZS) := f_X0_copyFrom_0 x0 x1 S
theorem c_X0_copyFrom {l : Launch} {D : va_G} {y : Nat → ClassId} {x0 : Nat} {x1 : Nat} {S : ZS} {o : Int32 × ZS} (hf : f_X0_copyFrom x0 x1 S = some o) : zMv l yX0_copyFrom wsX0_copyFrom ({ frames := 1, cells := 0, slots := 0, locals := 60 } : Room) [.ref (zh y x0), .ref (zh y x1)] D y S o :=
  z_entryV (own := RX0) (cc := cX0_copyFrom) (maxL := 2) (by decide) rfl rfl (Nat.le_of_ble_eq_true rfl) (fun p e s m args below meth c A0 Q H locs ls X hret hM hl => w_X0_copyFrom_0 X hret hf hM (lv_sub hl [0, 1] rfl))
theorem hd_X0_kindAt : yX0_kindAt.cls = RX0 ∧ yX0_kindAt.cls ≠ "java/lang/invoke/MethodHandle" ∧ yX0_kindAt.cls ≠ "java/lang/invoke/VarHandle" ∧ (parseMethodDescriptor yX0_kindAt.desc).map (fun d => d.parameters.length) = some 1 := by decide +kernel
theorem fl_X0_kindAt_0_0 : Cond.fieldLink RX0 9 "MoveTexts$Board" "men" "[I" ∈ wsX0_kindAt := by decide +kernel
theorem hw_X0_kindAt_0 : ∀ w ∈ wsX00, w ∈ wsX0_kindAt := by decide +kernel
noncomputable def f_X0_kindAt_0 (x0 : Nat) (x1 : Int32) (S : ZS) : Option (Int32 × ZS) :=
  m_chk (zK S x0 = 0) (
  m_cal (zP S 0 x0) (fun b1 =>
  m_chk (zK S b1 = 14) (
  m_chk (¬ (x1 < 0 ∨ zN S b1 ≤ (x1).toNatClampNeg)) (
  m_bnd (zA S b1 (x1).toNatClampNeg) (fun v2 =>
  m_bnd (v2 &&& (7 : Int32)) (fun v3 =>
  some (v3, S)))))))

set_option maxRecDepth 100000 in
set_option maxHeartbeats 4000000 in
theorem w_X0_kindAt_0 {p : Program} {l : Launch} {e : Env} {s : State} {m : MethodId} {args : Array Value} {below : List Frame} {meth : Method} {c : Code} {Q : State → Prop} {D : va_G} {y : Nat → ClassId} {A0 : Nat → Prop} {o : Int32 × ZS} (X : CallFix p m c cX0_kindAt 2 s args wsX0_kindAt RX0) (hret : zRi p l e ({ frames := 0, cells := 0, slots := 0, locals := 0 } : Room) s m args below meth c Q cX0_kindAt D y A0 .int o) {x0 : Nat} {x1 : Int32} {S : ZS} {H : Heap} {locs : List Loc} {ls : Array Slot} (hf : f_X0_kindAt_0 x0 x1 S = some o) (hM : zH D y A0 s H locs S) (hl : lv_has ls 2 [(0, .ref (zh y x0)), (1, .int x1)]) : W p l e ({ frames := 0, cells := 0, slots := 0, locals := 0 } : Room) s m args below meth c H locs 0 0 Q (F0 m 0 ls []) := by
  obtain ⟨hx, hb, hml, hown, hts⟩ := id X
  unfold f_X0_kindAt_0 at hf
  refine lv_aload_n hx hb dX0_kindAt_0 rfl (lv_at hl 0 rfl) ?_
  obtain ⟨ca, hf⟩ := m_chkE hf
  replace ca := z_in hM (by decide) ca
  refine z_get (k := 0) (j := 0) (C := RX0) (T := TX0) (N := 7) (fl := zf_0) (v := va_rf ((zP S 0 x0).map (zh y))) X hw_X0_kindAt_0 hM rfl zc_0 ca (by decide) fl_X0_kindAt_0_0 rfl dX0_kindAt_1 ?_
  clear ca
  obtain ⟨b1, hb9, hf⟩ := m_calE hf
  refine z_topr hb9 ?_
  clear hb9
  refine lv_iload_n hx hb dX0_kindAt_4 rfl (lv_at hl 1 rfl) ?_
  obtain ⟨ca, hf⟩ := m_chkE hf
  replace ca := z_in hM (by decide) ca
  obtain ⟨cd, hf⟩ := m_chkE hf
  refine z_iald X hM ca cd dX0_kindAt_5 ?_
  clear ca cd
  obtain ⟨v2, ev, hf⟩ := m_bndE hf
  refine m_top ev ?_
  clear ev
  refine lv_bipush (v := (7 : Int32)) hx hb dX0_kindAt_6 (by decide) ?_
  refine lv_iand hx hb dX0_kindAt_8 ?_
  obtain ⟨v3, ev, hf⟩ := m_bndE hf
  refine m_top ev ?_
  clear ev
  cases hf
  exact hret H locs _ ls hM rfl dX0_kindAt_9
noncomputable def f_X0_kindAt (x0 : Nat) (x1 : Int32) (S : ZS) : Option (Int32 × ZS) := f_X0_kindAt_0 x0 x1 S
theorem c_X0_kindAt {l : Launch} {D : va_G} {y : Nat → ClassId} {x0 : Nat} {x1 : Int32} {S : ZS} {o : Int32 × ZS} (hf : f_X0_kindAt x0 x1 S = some o) : zMi l yX0_kindAt wsX0_kindAt ({ frames := 0, cells := 0, slots := 0, locals := 0 } : Room) [.ref (zh y x0), .int x1] D y S o :=
  z_entryI (own := RX0) (cc := cX0_kindAt) (maxL := 2) (by decide) rfl rfl (Nat.le_of_ble_eq_true rfl) (fun p e s m args below meth c A0 Q H locs ls X hret hM hl => w_X0_kindAt_0 X hret hf hM (lv_sub hl [0, 1] rfl))
theorem hd_X0_kingOf : yX0_kingOf.cls = RX0 ∧ yX0_kingOf.cls ≠ "java/lang/invoke/MethodHandle" ∧ yX0_kingOf.cls ≠ "java/lang/invoke/VarHandle" ∧ (parseMethodDescriptor yX0_kingOf.desc).map (fun d => d.parameters.length) = some 1 := by decide +kernel
theorem fl_X0_kingOf_0_1 : Cond.fieldLink RX0 15 "MoveTexts$Board" "whiteKing" "I" ∈ wsX0_kingOf := by decide +kernel
theorem fl_X0_kingOf_0_2 : Cond.fieldLink RX0 19 "MoveTexts$Board" "blackKing" "I" ∈ wsX0_kingOf := by decide +kernel
theorem hw_X0_kingOf_0 : ∀ w ∈ wsX00, w ∈ wsX0_kingOf := by decide +kernel
noncomputable def f_X0_kingOf_15 (t0 : Int32) (S : ZS) : Option (Int32 × ZS) :=
  some (t0, S)

set_option maxRecDepth 100000 in
set_option maxHeartbeats 4000000 in
theorem w_X0_kingOf_15 {p : Program} {l : Launch} {e : Env} {s : State} {m : MethodId} {args : Array Value} {below : List Frame} {meth : Method} {c : Code} {Q : State → Prop} {D : va_G} {y : Nat → ClassId} {A0 : Nat → Prop} {o : Int32 × ZS} (X : CallFix p m c cX0_kingOf 2 s args wsX0_kingOf RX0) (hret : zRi p l e ({ frames := 0, cells := 0, slots := 0, locals := 0 } : Room) s m args below meth c Q cX0_kingOf D y A0 .int o) {t0 : Int32} {S : ZS} {H : Heap} {locs : List Loc} {ls : Array Slot} (hf : f_X0_kingOf_15 t0 S = some o) (hM : zH D y A0 s H locs S) (hl : lv_has ls 2 []) : W p l e ({ frames := 0, cells := 0, slots := 0, locals := 0 } : Room) s m args below meth c H locs 0 0 Q (F0 m 15 ls [.int t0]) := by
  obtain ⟨hx, hb, hml, hown, hts⟩ := id X
  unfold f_X0_kingOf_15 at hf
  cases hf
  exact hret H locs _ ls hM rfl dX0_kingOf_15
noncomputable def f_X0_kingOf_0 (x0 : Nat) (x1 : Int32) (S : ZS) : Option (Int32 × ZS) :=
  m_if (x1 = 0) (
  m_chk (zK S x0 = 0) (
  f_X0_kingOf_15 (zI S 1 x0) S)
  ) (
  m_chk (zK S x0 = 0) (
  f_X0_kingOf_15 (zI S 2 x0) S)
  )

set_option maxRecDepth 100000 in
set_option maxHeartbeats 4000000 in
theorem w_X0_kingOf_0 {p : Program} {l : Launch} {e : Env} {s : State} {m : MethodId} {args : Array Value} {below : List Frame} {meth : Method} {c : Code} {Q : State → Prop} {D : va_G} {y : Nat → ClassId} {A0 : Nat → Prop} {o : Int32 × ZS} (X : CallFix p m c cX0_kingOf 2 s args wsX0_kingOf RX0) (hret : zRi p l e ({ frames := 0, cells := 0, slots := 0, locals := 0 } : Room) s m args below meth c Q cX0_kingOf D y A0 .int o) {x0 : Nat} {x1 : Int32} {S : ZS} {H : Heap} {locs : List Loc} {ls : Array Slot} (hf : f_X0_kingOf_0 x0 x1 S = some o) (hM : zH D y A0 s H locs S) (hl : lv_has ls 2 [(0, .ref (zh y x0)), (1, .int x1)]) : W p l e ({ frames := 0, cells := 0, slots := 0, locals := 0 } : Room) s m args below meth c H locs 0 0 Q (F0 m 0 ls []) := by
  obtain ⟨hx, hb, hml, hown, hts⟩ := id X
  unfold f_X0_kingOf_0 at hf
  refine lv_iload_n hx hb dX0_kingOf_0 rfl (lv_at hl 1 rfl) ?_
  refine lv_if_ne (tgt := 11) hx hb dX0_kingOf_1 (by decide) (fun cc1 => ?_) (fun cc1 => ?_)
  · replace hf := m_ifF hf cc1
    refine lv_aload_n hx hb dX0_kingOf_11 rfl (lv_at hl 0 rfl) ?_
    obtain ⟨ca, hf⟩ := m_chkE hf
    replace ca := z_in hM (by decide) ca
    refine z_get (k := 0) (j := 2) (C := RX0) (T := TX0) (N := 7) (fl := zf_0) (v := .int (zI S 2 x0)) X hw_X0_kingOf_0 hM rfl zc_0 ca (by decide) fl_X0_kingOf_0_2 rfl dX0_kingOf_12 ?_
    clear ca
    exact w_X0_kingOf_15 (t0 := (zI S 2 x0)) X hret hf hM (lv_sub hl [] rfl)
  · replace hf := m_ifT hf cc1
    refine lv_aload_n hx hb dX0_kingOf_4 rfl (lv_at hl 0 rfl) ?_
    obtain ⟨ca, hf⟩ := m_chkE hf
    replace ca := z_in hM (by decide) ca
    refine z_get (k := 0) (j := 1) (C := RX0) (T := TX0) (N := 7) (fl := zf_0) (v := .int (zI S 1 x0)) X hw_X0_kingOf_0 hM rfl zc_0 ca (by decide) fl_X0_kingOf_0_1 rfl dX0_kingOf_5 ?_
    clear ca
    refine lv_goto (tgt := 15) hx hb dX0_kingOf_8 (by decide) ?_
    exact w_X0_kingOf_15 (t0 := (zI S 1 x0)) X hret hf hM (lv_sub hl [] rfl)
noncomputable def f_X0_kingOf (x0 : Nat) (x1 : Int32) (S : ZS) : Option (Int32 × ZS) := f_X0_kingOf_0 x0 x1 S
theorem c_X0_kingOf {l : Launch} {D : va_G} {y : Nat → ClassId} {x0 : Nat} {x1 : Int32} {S : ZS} {o : Int32 × ZS} (hf : f_X0_kingOf x0 x1 S = some o) : zMi l yX0_kingOf wsX0_kingOf ({ frames := 0, cells := 0, slots := 0, locals := 0 } : Room) [.ref (zh y x0), .int x1] D y S o :=
  z_entryI (own := RX0) (cc := cX0_kingOf) (maxL := 2) (by decide) rfl rfl (Nat.le_of_ble_eq_true rfl) (fun p e s m args below meth c A0 Q H locs ls X hret hM hl => w_X0_kingOf_0 X hret hf hM (lv_sub hl [0, 1] rfl))
theorem hd_X0_attacks : yX0_attacks.cls = RX0 ∧ yX0_attacks.cls ≠ "java/lang/invoke/MethodHandle" ∧ yX0_attacks.cls ≠ "java/lang/invoke/VarHandle" ∧ (parseMethodDescriptor yX0_attacks.desc).map (fun d => d.parameters.length) = some 2 := by decide +kernel
theorem fl_X0_attacks_0_0 : Cond.fieldLink RX0 9 "MoveTexts$Board" "men" "[I" ∈ wsX0_attacks := by decide +kernel
theorem hw_X0_attacks_0 : ∀ w ∈ wsX00, w ∈ wsX0_attacks := by decide +kernel
noncomputable def f_X0_attacks_235 (S : ZS) : Option (Int32 × ZS) :=
  m_chk (vp_nar .boolean (0 : Int32) = (0 : Int32)) (some ((0 : Int32), S))

set_option maxRecDepth 100000 in
set_option maxHeartbeats 4000000 in
theorem w_X0_attacks_235 {p : Program} {l : Launch} {e : Env} {s : State} {m : MethodId} {args : Array Value} {below : List Frame} {meth : Method} {c : Code} {Q : State → Prop} {D : va_G} {y : Nat → ClassId} {A0 : Nat → Prop} {o : Int32 × ZS} (X : CallFix p m c cX0_attacks 13 s args wsX0_attacks RX0) (hret : zRi p l e ({ frames := 0, cells := 0, slots := 0, locals := 0 } : Room) s m args below meth c Q cX0_attacks D y A0 .boolean o) {S : ZS} {H : Heap} {locs : List Loc} {ls : Array Slot} (hf : f_X0_attacks_235  S = some o) (hM : zH D y A0 s H locs S) (hl : lv_has ls 13 []) : W p l e ({ frames := 0, cells := 0, slots := 0, locals := 0 } : Room) s m args below meth c H locs 0 0 Q (F0 m 235 ls []) := by
  obtain ⟨hx, hb, hml, hown, hts⟩ := id X
  unfold f_X0_attacks_235 at hf
  refine lv_iconst (v := (0 : Int32)) hx hb dX0_attacks_235 (by decide) ?_
  obtain ⟨cd, hf⟩ := m_chkE hf
  cases hf
  exact hret H locs _ ls hM (m_nb cd) dX0_attacks_236
noncomputable def f_X0_attacks_281s (self281 : Nat → Int32 → Int32 → Int32 → Int32 → ZS → Option (Int32 × ZS)) (x0 : Nat) (x1 : Int32) (x8 : Int32) (x11 : Int32) (x12 : Int32) (S : ZS) : Option (Int32 × ZS) :=
  m_if (x8 ≤ x12) (
  m_chk (vp_nar .boolean (1 : Int32) = (1 : Int32)) (some ((1 : Int32), S))
  ) (
  m_chk (zK S x0 = 0) (
  m_cal (zP S 0 x0) (fun b1 =>
  m_bnd (x12 * x11) (fun v2 =>
  m_bnd (x1 + v2) (fun v3 =>
  m_chk (zK S b1 = 14) (
  m_chk (¬ (v3 < 0 ∨ zN S b1 ≤ (v3).toNatClampNeg)) (
  m_bnd (zA S b1 (v3).toNatClampNeg) (fun v4 =>
  m_if (v4 = 0) (
  m_bnd (x12 + (1 : Int32)) (fun v5 =>
  self281 x0 x1 x8 x11 v5 S)
  ) (
  m_chk (vp_nar .boolean (0 : Int32) = (0 : Int32)) (some ((0 : Int32), S))
  ))))))))
  )

set_option maxRecDepth 100000 in
set_option maxHeartbeats 4000000 in
theorem ws_X0_attacks_281 {p : Program} {l : Launch} {e : Env} {s : State} {m : MethodId} {args : Array Value} {below : List Frame} {meth : Method} {c : Code} {Q : State → Prop} {D : va_G} {y : Nat → ClassId} {A0 : Nat → Prop} {o : Int32 × ZS} (X : CallFix p m c cX0_attacks 13 s args wsX0_attacks RX0) (hret : zRi p l e ({ frames := 0, cells := 0, slots := 0, locals := 0 } : Room) s m args below meth c Q cX0_attacks D y A0 .boolean o) {self281 : Nat → Int32 → Int32 → Int32 → Int32 → ZS → Option (Int32 × ZS)} (hself281 : ∀ (x0 : Nat) (x1 : Int32) (x8 : Int32) (x11 : Int32) (x12 : Int32) (S : ZS) (H : Heap) (locs : List Loc) (ls : Array Slot), self281 x0 x1 x8 x11 x12 S = some o → zH D y A0 s H locs S → lv_has ls 13 [(0, .ref (zh y x0)), (1, .int x1), (8, .int x8), (11, .int x11), (12, .int x12)] → W p l e ({ frames := 0, cells := 0, slots := 0, locals := 0 } : Room) s m args below meth c H locs 0 0 Q (F0 m 281 ls [])) {x0 : Nat} {x1 : Int32} {x8 : Int32} {x11 : Int32} {x12 : Int32} {S : ZS} {H : Heap} {locs : List Loc} {ls : Array Slot} (hf : f_X0_attacks_281s self281 x0 x1 x8 x11 x12 S = some o) (hM : zH D y A0 s H locs S) (hl : lv_has ls 13 [(0, .ref (zh y x0)), (1, .int x1), (8, .int x8), (11, .int x11), (12, .int x12)]) : W p l e ({ frames := 0, cells := 0, slots := 0, locals := 0 } : Room) s m args below meth c H locs 0 0 Q (F0 m 281 ls []) := by
  obtain ⟨hx, hb, hml, hown, hts⟩ := id X
  unfold f_X0_attacks_281s at hf
  refine lv_iload hx hb dX0_attacks_281 (lv_at hl 4 rfl) ?_
  refine lv_iload hx hb dX0_attacks_283 (lv_at hl 2 rfl) ?_
  refine lv_icmp_ge (tgt := 311) hx hb dX0_attacks_285 (by decide) (fun cc1 => ?_) (fun cc1 => ?_)
  · replace hf := m_ifT hf cc1
    refine lv_iconst (v := (1 : Int32)) hx hb dX0_attacks_311 (by decide) ?_
    obtain ⟨cd, hf⟩ := m_chkE hf
    cases hf
    exact hret H locs _ ls hM (m_nb cd) dX0_attacks_312
  · replace hf := m_ifF hf cc1
    refine lv_aload_n hx hb dX0_attacks_288 rfl (lv_at hl 0 rfl) ?_
    obtain ⟨ca, hf⟩ := m_chkE hf
    replace ca := z_in hM (by decide) ca
    refine z_get (k := 0) (j := 0) (C := RX0) (T := TX0) (N := 7) (fl := zf_0) (v := va_rf ((zP S 0 x0).map (zh y))) X hw_X0_attacks_0 hM rfl zc_0 ca (by decide) fl_X0_attacks_0_0 rfl dX0_attacks_289 ?_
    clear ca
    obtain ⟨b1, hb9, hf⟩ := m_calE hf
    refine z_topr hb9 ?_
    clear hb9
    refine lv_iload_n hx hb dX0_attacks_292 rfl (lv_at hl 1 rfl) ?_
    refine lv_iload hx hb dX0_attacks_293 (lv_at hl 4 rfl) ?_
    refine lv_iload hx hb dX0_attacks_295 (lv_at hl 3 rfl) ?_
    refine lv_imul hx hb dX0_attacks_297 ?_
    obtain ⟨v2, ev, hf⟩ := m_bndE hf
    refine m_top ev ?_
    clear ev
    refine lv_iadd hx hb dX0_attacks_298 ?_
    obtain ⟨v3, ev, hf⟩ := m_bndE hf
    refine m_top ev ?_
    clear ev
    obtain ⟨ca, hf⟩ := m_chkE hf
    replace ca := z_in hM (by decide) ca
    obtain ⟨cd, hf⟩ := m_chkE hf
    refine z_iald X hM ca cd dX0_attacks_299 ?_
    clear ca cd
    obtain ⟨v4, ev, hf⟩ := m_bndE hf
    refine m_top ev ?_
    clear ev
    refine lv_if_eq (tgt := 305) hx hb dX0_attacks_300 (by decide) (fun cc1 => ?_) (fun cc1 => ?_)
    · replace hf := m_ifT hf cc1
      obtain ⟨v5, ev, hf⟩ := m_bndE hf
      refine lv_iinc (v := v5) (lv' := [(12, .int v5), (0, .ref (zh y x0)), (1, .int x1), (8, .int x8), (11, .int x11)]) hx hb dX0_attacks_305 hl (k := 4) rfl (by rw [ev]; rfl) (by decide) rfl (fun ls hl => ?_)
      clear ev
      refine lv_goto (tgt := 281) hx hb dX0_attacks_308 (by decide) ?_
      exact hself281 x0 x1 x8 x11 v5 _ _ _ _ hf hM (lv_sub hl [1, 2, 3, 4, 0] rfl)
    · replace hf := m_ifF hf cc1
      refine lv_iconst (v := (0 : Int32)) hx hb dX0_attacks_303 (by decide) ?_
      obtain ⟨cd, hf⟩ := m_chkE hf
      cases hf
      exact hret H locs _ ls hM (m_nb cd) dX0_attacks_304
noncomputable def f_X0_attacks_281 : Nat → Nat → Int32 → Int32 → Int32 → Int32 → ZS → Option (Int32 × ZS)
  | 0 => fun _ _ _ _ _ _ => none
  | n + 1 => f_X0_attacks_281s (f_X0_attacks_281 n)
theorem w_X0_attacks_281 {p : Program} {l : Launch} {e : Env} {s : State} {m : MethodId} {args : Array Value} {below : List Frame} {meth : Method} {c : Code} {Q : State → Prop} {D : va_G} {y : Nat → ClassId} {A0 : Nat → Prop} {o : Int32 × ZS} (X : CallFix p m c cX0_attacks 13 s args wsX0_attacks RX0) (hret : zRi p l e ({ frames := 0, cells := 0, slots := 0, locals := 0 } : Room) s m args below meth c Q cX0_attacks D y A0 .boolean o) (n : Nat) : ∀ (x0 : Nat) (x1 : Int32) (x8 : Int32) (x11 : Int32) (x12 : Int32) (S : ZS) (H : Heap) (locs : List Loc) (ls : Array Slot), f_X0_attacks_281 n x0 x1 x8 x11 x12 S = some o → zH D y A0 s H locs S → lv_has ls 13 [(0, .ref (zh y x0)), (1, .int x1), (8, .int x8), (11, .int x11), (12, .int x12)] → W p l e ({ frames := 0, cells := 0, slots := 0, locals := 0 } : Room) s m args below meth c H locs 0 0 Q (F0 m 281 ls []) := by
  induction n with
  | zero => intro x0 x1 x8 x11 x12 S H locs ls hf; cases hf
  | succ n ih => intro x0 x1 x8 x11 x12 S H locs ls hf hM hl; exact ws_X0_attacks_281 X hret (self281 := f_X0_attacks_281 n) ih hf hM hl
noncomputable def f_X0_attacks_275 (x0 : Nat) (x1 : Int32) (x8 : Int32) (t0 : Int32) (t1 : Int32) (S : ZS) : Option (Int32 × ZS) :=
  m_bnd (t1 + t0) (fun v1 =>
  f_X0_attacks_281 mFuel x0 x1 x8 v1 (1 : Int32) S)

set_option maxRecDepth 100000 in
set_option maxHeartbeats 4000000 in
theorem w_X0_attacks_275 {p : Program} {l : Launch} {e : Env} {s : State} {m : MethodId} {args : Array Value} {below : List Frame} {meth : Method} {c : Code} {Q : State → Prop} {D : va_G} {y : Nat → ClassId} {A0 : Nat → Prop} {o : Int32 × ZS} (X : CallFix p m c cX0_attacks 13 s args wsX0_attacks RX0) (hret : zRi p l e ({ frames := 0, cells := 0, slots := 0, locals := 0 } : Room) s m args below meth c Q cX0_attacks D y A0 .boolean o) {x0 : Nat} {x1 : Int32} {x8 : Int32} {t0 : Int32} {t1 : Int32} {S : ZS} {H : Heap} {locs : List Loc} {ls : Array Slot} (hf : f_X0_attacks_275 x0 x1 x8 t0 t1 S = some o) (hM : zH D y A0 s H locs S) (hl : lv_has ls 13 [(0, .ref (zh y x0)), (1, .int x1), (8, .int x8)]) : W p l e ({ frames := 0, cells := 0, slots := 0, locals := 0 } : Room) s m args below meth c H locs 0 0 Q (F0 m 275 ls [.int t0, .int t1]) := by
  obtain ⟨hx, hb, hml, hown, hts⟩ := id X
  unfold f_X0_attacks_275 at hf
  refine lv_iadd hx hb dX0_attacks_275 ?_
  obtain ⟨v1, ev, hf⟩ := m_bndE hf
  refine m_top ev ?_
  clear ev
  refine lv_istore (lv' := [(11, .int v1), (0, .ref (zh y x0)), (1, .int x1), (8, .int x8)]) hx hb dX0_attacks_276 hl (by decide) rfl (fun ls hl => ?_)
  refine lv_iconst (v := (1 : Int32)) hx hb dX0_attacks_278 (by decide) ?_
  refine lv_istore (lv' := [(12, .int (1 : Int32)), (11, .int v1), (0, .ref (zh y x0)), (1, .int x1), (8, .int x8)]) hx hb dX0_attacks_279 hl (by decide) rfl (fun ls hl => ?_)
  exact w_X0_attacks_281 X hret _ x0 x1 x8 v1 (1 : Int32) _ _ _ _ hf hM (lv_sub hl [2, 3, 4, 1, 0] rfl)
noncomputable def f_X0_attacks_254 (x0 : Nat) (x1 : Int32) (x4 : Int32) (x8 : Int32) (t0 : Int32) (S : ZS) : Option (Int32 × ZS) :=
  m_if (x4 ≤ 0) (
  m_if (0 ≤ x4) (
  f_X0_attacks_275 x0 x1 x8 (0 : Int32) t0 S
  ) (
  f_X0_attacks_275 x0 x1 x8 (-8 : Int32) t0 S
  )
  ) (
  f_X0_attacks_275 x0 x1 x8 (8 : Int32) t0 S
  )

set_option maxRecDepth 100000 in
set_option maxHeartbeats 4000000 in
theorem w_X0_attacks_254 {p : Program} {l : Launch} {e : Env} {s : State} {m : MethodId} {args : Array Value} {below : List Frame} {meth : Method} {c : Code} {Q : State → Prop} {D : va_G} {y : Nat → ClassId} {A0 : Nat → Prop} {o : Int32 × ZS} (X : CallFix p m c cX0_attacks 13 s args wsX0_attacks RX0) (hret : zRi p l e ({ frames := 0, cells := 0, slots := 0, locals := 0 } : Room) s m args below meth c Q cX0_attacks D y A0 .boolean o) {x0 : Nat} {x1 : Int32} {x4 : Int32} {x8 : Int32} {t0 : Int32} {S : ZS} {H : Heap} {locs : List Loc} {ls : Array Slot} (hf : f_X0_attacks_254 x0 x1 x4 x8 t0 S = some o) (hM : zH D y A0 s H locs S) (hl : lv_has ls 13 [(0, .ref (zh y x0)), (1, .int x1), (4, .int x4), (8, .int x8)]) : W p l e ({ frames := 0, cells := 0, slots := 0, locals := 0 } : Room) s m args below meth c H locs 0 0 Q (F0 m 254 ls [.int t0]) := by
  obtain ⟨hx, hb, hml, hown, hts⟩ := id X
  unfold f_X0_attacks_254 at hf
  refine lv_iload hx hb dX0_attacks_254 (lv_at hl 2 rfl) ?_
  refine lv_if_le (tgt := 264) hx hb dX0_attacks_256 (by decide) (fun cc1 => ?_) (fun cc1 => ?_)
  · replace hf := m_ifT hf cc1
    refine lv_iload hx hb dX0_attacks_264 (lv_at hl 2 rfl) ?_
    refine lv_if_ge (tgt := 274) hx hb dX0_attacks_266 (by decide) (fun cc1 => ?_) (fun cc1 => ?_)
    · replace hf := m_ifT hf cc1
      refine lv_iconst (v := (0 : Int32)) hx hb dX0_attacks_274 (by decide) ?_
      exact w_X0_attacks_275 (x0 := x0) (x1 := x1) (x8 := x8) (t0 := (0 : Int32)) (t1 := t0) X hret hf hM (lv_sub hl [0, 1, 3] rfl)
    · replace hf := m_ifF hf cc1
      refine lv_bipush (v := (-8 : Int32)) hx hb dX0_attacks_269 (by decide) ?_
      refine lv_goto (tgt := 275) hx hb dX0_attacks_271 (by decide) ?_
      exact w_X0_attacks_275 (x0 := x0) (x1 := x1) (x8 := x8) (t0 := (-8 : Int32)) (t1 := t0) X hret hf hM (lv_sub hl [0, 1, 3] rfl)
  · replace hf := m_ifF hf cc1
    refine lv_bipush (v := (8 : Int32)) hx hb dX0_attacks_259 (by decide) ?_
    refine lv_goto (tgt := 275) hx hb dX0_attacks_261 (by decide) ?_
    exact w_X0_attacks_275 (x0 := x0) (x1 := x1) (x8 := x8) (t0 := (8 : Int32)) (t1 := t0) X hret hf hM (lv_sub hl [0, 1, 3] rfl)
noncomputable def f_X0_attacks_223 (x0 : Nat) (x1 : Int32) (x3 : Int32) (x4 : Int32) (x8 : Int32) (t0 : Int32) (S : ZS) : Option (Int32 × ZS) :=
  m_if (t0 = 0) (
  f_X0_attacks_235  S
  ) (
  m_if (x8 = 0) (
  f_X0_attacks_235  S
  ) (
  m_if (x3 ≤ 0) (
  m_if (0 ≤ x3) (
  f_X0_attacks_254 x0 x1 x4 x8 (0 : Int32) S
  ) (
  f_X0_attacks_254 x0 x1 x4 x8 (-1 : Int32) S
  )
  ) (
  f_X0_attacks_254 x0 x1 x4 x8 (1 : Int32) S
  )
  )
  )

set_option maxRecDepth 100000 in
set_option maxHeartbeats 4000000 in
theorem w_X0_attacks_223 {p : Program} {l : Launch} {e : Env} {s : State} {m : MethodId} {args : Array Value} {below : List Frame} {meth : Method} {c : Code} {Q : State → Prop} {D : va_G} {y : Nat → ClassId} {A0 : Nat → Prop} {o : Int32 × ZS} (X : CallFix p m c cX0_attacks 13 s args wsX0_attacks RX0) (hret : zRi p l e ({ frames := 0, cells := 0, slots := 0, locals := 0 } : Room) s m args below meth c Q cX0_attacks D y A0 .boolean o) {x0 : Nat} {x1 : Int32} {x3 : Int32} {x4 : Int32} {x8 : Int32} {t0 : Int32} {S : ZS} {H : Heap} {locs : List Loc} {ls : Array Slot} (hf : f_X0_attacks_223 x0 x1 x3 x4 x8 t0 S = some o) (hM : zH D y A0 s H locs S) (hl : lv_has ls 13 [(0, .ref (zh y x0)), (1, .int x1), (3, .int x3), (4, .int x4), (8, .int x8)]) : W p l e ({ frames := 0, cells := 0, slots := 0, locals := 0 } : Room) s m args below meth c H locs 0 0 Q (F0 m 223 ls [.int t0]) := by
  obtain ⟨hx, hb, hml, hown, hts⟩ := id X
  unfold f_X0_attacks_223 at hf
  refine lv_istore (lv' := [(10, .int t0), (0, .ref (zh y x0)), (1, .int x1), (3, .int x3), (4, .int x4), (8, .int x8)]) hx hb dX0_attacks_223 hl (by decide) rfl (fun ls hl => ?_)
  refine lv_iload hx hb dX0_attacks_225 (lv_at hl 0 rfl) ?_
  refine lv_if_eq (tgt := 235) hx hb dX0_attacks_227 (by decide) (fun cc1 => ?_) (fun cc1 => ?_)
  · replace hf := m_ifT hf cc1
    exact w_X0_attacks_235 X hret hf hM (lv_sub hl [] rfl)
  · replace hf := m_ifF hf cc1
    refine lv_iload hx hb dX0_attacks_230 (lv_at hl 5 rfl) ?_
    refine lv_if_ne (tgt := 237) hx hb dX0_attacks_232 (by decide) (fun cc1 => ?_) (fun cc1 => ?_)
    · replace hf := m_ifF hf cc1
      refine lv_iload_n hx hb dX0_attacks_237 rfl (lv_at hl 3 rfl) ?_
      refine lv_if_le (tgt := 245) hx hb dX0_attacks_238 (by decide) (fun cc1 => ?_) (fun cc1 => ?_)
      · replace hf := m_ifT hf cc1
        refine lv_iload_n hx hb dX0_attacks_245 rfl (lv_at hl 3 rfl) ?_
        refine lv_if_ge (tgt := 253) hx hb dX0_attacks_246 (by decide) (fun cc1 => ?_) (fun cc1 => ?_)
        · replace hf := m_ifT hf cc1
          refine lv_iconst (v := (0 : Int32)) hx hb dX0_attacks_253 (by decide) ?_
          exact w_X0_attacks_254 (x0 := x0) (x1 := x1) (x4 := x4) (x8 := x8) (t0 := (0 : Int32)) X hret hf hM (lv_sub hl [1, 2, 4, 5] rfl)
        · replace hf := m_ifF hf cc1
          refine lv_iconst (v := (-1 : Int32)) hx hb dX0_attacks_249 (by decide) ?_
          refine lv_goto (tgt := 254) hx hb dX0_attacks_250 (by decide) ?_
          exact w_X0_attacks_254 (x0 := x0) (x1 := x1) (x4 := x4) (x8 := x8) (t0 := (-1 : Int32)) X hret hf hM (lv_sub hl [1, 2, 4, 5] rfl)
      · replace hf := m_ifF hf cc1
        refine lv_iconst (v := (1 : Int32)) hx hb dX0_attacks_241 (by decide) ?_
        refine lv_goto (tgt := 254) hx hb dX0_attacks_242 (by decide) ?_
        exact w_X0_attacks_254 (x0 := x0) (x1 := x1) (x4 := x4) (x8 := x8) (t0 := (1 : Int32)) X hret hf hM (lv_sub hl [1, 2, 4, 5] rfl)
    · replace hf := m_ifT hf cc1
      exact w_X0_attacks_235 X hret hf hM (lv_sub hl [] rfl)
noncomputable def f_X0_attacks_222 (x0 : Nat) (x1 : Int32) (x3 : Int32) (x4 : Int32) (x8 : Int32) (S : ZS) : Option (Int32 × ZS) :=
  f_X0_attacks_223 x0 x1 x3 x4 x8 (0 : Int32) S

set_option maxRecDepth 100000 in
set_option maxHeartbeats 4000000 in
theorem w_X0_attacks_222 {p : Program} {l : Launch} {e : Env} {s : State} {m : MethodId} {args : Array Value} {below : List Frame} {meth : Method} {c : Code} {Q : State → Prop} {D : va_G} {y : Nat → ClassId} {A0 : Nat → Prop} {o : Int32 × ZS} (X : CallFix p m c cX0_attacks 13 s args wsX0_attacks RX0) (hret : zRi p l e ({ frames := 0, cells := 0, slots := 0, locals := 0 } : Room) s m args below meth c Q cX0_attacks D y A0 .boolean o) {x0 : Nat} {x1 : Int32} {x3 : Int32} {x4 : Int32} {x8 : Int32} {S : ZS} {H : Heap} {locs : List Loc} {ls : Array Slot} (hf : f_X0_attacks_222 x0 x1 x3 x4 x8 S = some o) (hM : zH D y A0 s H locs S) (hl : lv_has ls 13 [(0, .ref (zh y x0)), (1, .int x1), (3, .int x3), (4, .int x4), (8, .int x8)]) : W p l e ({ frames := 0, cells := 0, slots := 0, locals := 0 } : Room) s m args below meth c H locs 0 0 Q (F0 m 222 ls []) := by
  obtain ⟨hx, hb, hml, hown, hts⟩ := id X
  unfold f_X0_attacks_222 at hf
  refine lv_iconst (v := (0 : Int32)) hx hb dX0_attacks_222 (by decide) ?_
  exact w_X0_attacks_223 (x0 := x0) (x1 := x1) (x3 := x3) (x4 := x4) (x8 := x8) (t0 := (0 : Int32)) X hret hf hM (lv_sub hl [0, 1, 2, 3, 4] rfl)
noncomputable def f_X0_attacks_218 (x0 : Nat) (x1 : Int32) (x3 : Int32) (x4 : Int32) (x8 : Int32) (S : ZS) : Option (Int32 × ZS) :=
  f_X0_attacks_223 x0 x1 x3 x4 x8 (1 : Int32) S

set_option maxRecDepth 100000 in
set_option maxHeartbeats 4000000 in
theorem w_X0_attacks_218 {p : Program} {l : Launch} {e : Env} {s : State} {m : MethodId} {args : Array Value} {below : List Frame} {meth : Method} {c : Code} {Q : State → Prop} {D : va_G} {y : Nat → ClassId} {A0 : Nat → Prop} {o : Int32 × ZS} (X : CallFix p m c cX0_attacks 13 s args wsX0_attacks RX0) (hret : zRi p l e ({ frames := 0, cells := 0, slots := 0, locals := 0 } : Room) s m args below meth c Q cX0_attacks D y A0 .boolean o) {x0 : Nat} {x1 : Int32} {x3 : Int32} {x4 : Int32} {x8 : Int32} {S : ZS} {H : Heap} {locs : List Loc} {ls : Array Slot} (hf : f_X0_attacks_218 x0 x1 x3 x4 x8 S = some o) (hM : zH D y A0 s H locs S) (hl : lv_has ls 13 [(0, .ref (zh y x0)), (1, .int x1), (3, .int x3), (4, .int x4), (8, .int x8)]) : W p l e ({ frames := 0, cells := 0, slots := 0, locals := 0 } : Room) s m args below meth c H locs 0 0 Q (F0 m 218 ls []) := by
  obtain ⟨hx, hb, hml, hown, hts⟩ := id X
  unfold f_X0_attacks_218 at hf
  refine lv_iconst (v := (1 : Int32)) hx hb dX0_attacks_218 (by decide) ?_
  refine lv_goto (tgt := 223) hx hb dX0_attacks_219 (by decide) ?_
  exact w_X0_attacks_223 (x0 := x0) (x1 := x1) (x3 := x3) (x4 := x4) (x8 := x8) (t0 := (1 : Int32)) X hret hf hM (lv_sub hl [0, 1, 2, 3, 4] rfl)
noncomputable def f_X0_attacks_191 (x0 : Nat) (x1 : Int32) (x3 : Int32) (x4 : Int32) (x8 : Int32) (S : ZS) : Option (Int32 × ZS) :=
  f_X0_attacks_223 x0 x1 x3 x4 x8 (1 : Int32) S

set_option maxRecDepth 100000 in
set_option maxHeartbeats 4000000 in
theorem w_X0_attacks_191 {p : Program} {l : Launch} {e : Env} {s : State} {m : MethodId} {args : Array Value} {below : List Frame} {meth : Method} {c : Code} {Q : State → Prop} {D : va_G} {y : Nat → ClassId} {A0 : Nat → Prop} {o : Int32 × ZS} (X : CallFix p m c cX0_attacks 13 s args wsX0_attacks RX0) (hret : zRi p l e ({ frames := 0, cells := 0, slots := 0, locals := 0 } : Room) s m args below meth c Q cX0_attacks D y A0 .boolean o) {x0 : Nat} {x1 : Int32} {x3 : Int32} {x4 : Int32} {x8 : Int32} {S : ZS} {H : Heap} {locs : List Loc} {ls : Array Slot} (hf : f_X0_attacks_191 x0 x1 x3 x4 x8 S = some o) (hM : zH D y A0 s H locs S) (hl : lv_has ls 13 [(0, .ref (zh y x0)), (1, .int x1), (3, .int x3), (4, .int x4), (8, .int x8)]) : W p l e ({ frames := 0, cells := 0, slots := 0, locals := 0 } : Room) s m args below meth c H locs 0 0 Q (F0 m 191 ls []) := by
  obtain ⟨hx, hb, hml, hown, hts⟩ := id X
  unfold f_X0_attacks_191 at hf
  refine lv_iconst (v := (1 : Int32)) hx hb dX0_attacks_191 (by decide) ?_
  refine lv_goto (tgt := 223) hx hb dX0_attacks_192 (by decide) ?_
  exact w_X0_attacks_223 (x0 := x0) (x1 := x1) (x3 := x3) (x4 := x4) (x8 := x8) (t0 := (1 : Int32)) X hret hf hM (lv_sub hl [0, 1, 2, 3, 4] rfl)
noncomputable def f_X0_attacks_172 (x0 : Nat) (x1 : Int32) (x3 : Int32) (x4 : Int32) (x5 : Int32) (x6 : Int32) (x7 : Int32) (x8 : Int32) (t0 : Int32) (S : ZS) : Option (Int32 × ZS) :=
  m_if (t0 = 0) (
  m_if (x6 = x7) (
  m_if (x5 = (3 : Int32)) (
  f_X0_attacks_218 x0 x1 x3 x4 x8 S
  ) (
  m_if (x5 = (5 : Int32)) (
  f_X0_attacks_218 x0 x1 x3 x4 x8 S
  ) (
  f_X0_attacks_222 x0 x1 x3 x4 x8 S
  )
  )
  ) (
  f_X0_attacks_222 x0 x1 x3 x4 x8 S
  )
  ) (
  m_if (x5 = (4 : Int32)) (
  f_X0_attacks_191 x0 x1 x3 x4 x8 S
  ) (
  m_if (x5 = (5 : Int32)) (
  f_X0_attacks_191 x0 x1 x3 x4 x8 S
  ) (
  f_X0_attacks_223 x0 x1 x3 x4 x8 (0 : Int32) S
  )
  )
  )

set_option maxRecDepth 100000 in
set_option maxHeartbeats 4000000 in
theorem w_X0_attacks_172 {p : Program} {l : Launch} {e : Env} {s : State} {m : MethodId} {args : Array Value} {below : List Frame} {meth : Method} {c : Code} {Q : State → Prop} {D : va_G} {y : Nat → ClassId} {A0 : Nat → Prop} {o : Int32 × ZS} (X : CallFix p m c cX0_attacks 13 s args wsX0_attacks RX0) (hret : zRi p l e ({ frames := 0, cells := 0, slots := 0, locals := 0 } : Room) s m args below meth c Q cX0_attacks D y A0 .boolean o) {x0 : Nat} {x1 : Int32} {x3 : Int32} {x4 : Int32} {x5 : Int32} {x6 : Int32} {x7 : Int32} {x8 : Int32} {t0 : Int32} {S : ZS} {H : Heap} {locs : List Loc} {ls : Array Slot} (hf : f_X0_attacks_172 x0 x1 x3 x4 x5 x6 x7 x8 t0 S = some o) (hM : zH D y A0 s H locs S) (hl : lv_has ls 13 [(0, .ref (zh y x0)), (1, .int x1), (3, .int x3), (4, .int x4), (5, .int x5), (6, .int x6), (7, .int x7), (8, .int x8)]) : W p l e ({ frames := 0, cells := 0, slots := 0, locals := 0 } : Room) s m args below meth c H locs 0 0 Q (F0 m 172 ls [.int t0]) := by
  obtain ⟨hx, hb, hml, hown, hts⟩ := id X
  unfold f_X0_attacks_172 at hf
  refine lv_istore (lv' := [(9, .int t0), (0, .ref (zh y x0)), (1, .int x1), (3, .int x3), (4, .int x4), (5, .int x5), (6, .int x6), (7, .int x7), (8, .int x8)]) hx hb dX0_attacks_172 hl (by decide) rfl (fun ls hl => ?_)
  refine lv_iload hx hb dX0_attacks_174 (lv_at hl 0 rfl) ?_
  refine lv_if_eq (tgt := 199) hx hb dX0_attacks_176 (by decide) (fun cc1 => ?_) (fun cc1 => ?_)
  · replace hf := m_ifT hf cc1
    refine lv_iload hx hb dX0_attacks_199 (lv_at hl 6 rfl) ?_
    refine lv_iload hx hb dX0_attacks_201 (lv_at hl 7 rfl) ?_
    refine lv_icmp_ne (tgt := 222) hx hb dX0_attacks_203 (by decide) (fun cc1 => ?_) (fun cc1 => ?_)
    · replace hf := m_ifF hf cc1
      exact w_X0_attacks_222 (x0 := x0) (x1 := x1) (x3 := x3) (x4 := x4) (x8 := x8) X hret hf hM (lv_sub hl [1, 2, 3, 4, 8] rfl)
    · replace hf := m_ifT hf cc1
      refine lv_iload hx hb dX0_attacks_206 (lv_at hl 5 rfl) ?_
      refine lv_iconst (v := (3 : Int32)) hx hb dX0_attacks_208 (by decide) ?_
      refine lv_icmp_eq (tgt := 218) hx hb dX0_attacks_209 (by decide) (fun cc1 => ?_) (fun cc1 => ?_)
      · replace hf := m_ifT hf cc1
        exact w_X0_attacks_218 (x0 := x0) (x1 := x1) (x3 := x3) (x4 := x4) (x8 := x8) X hret hf hM (lv_sub hl [1, 2, 3, 4, 8] rfl)
      · replace hf := m_ifF hf cc1
        refine lv_iload hx hb dX0_attacks_212 (lv_at hl 5 rfl) ?_
        refine lv_iconst (v := (5 : Int32)) hx hb dX0_attacks_214 (by decide) ?_
        refine lv_icmp_ne (tgt := 222) hx hb dX0_attacks_215 (by decide) (fun cc1 => ?_) (fun cc1 => ?_)
        · replace hf := m_ifF hf cc1
          exact w_X0_attacks_222 (x0 := x0) (x1 := x1) (x3 := x3) (x4 := x4) (x8 := x8) X hret hf hM (lv_sub hl [1, 2, 3, 4, 8] rfl)
        · replace hf := m_ifT hf cc1
          exact w_X0_attacks_218 (x0 := x0) (x1 := x1) (x3 := x3) (x4 := x4) (x8 := x8) X hret hf hM (lv_sub hl [1, 2, 3, 4, 8] rfl)
  · replace hf := m_ifF hf cc1
    refine lv_iload hx hb dX0_attacks_179 (lv_at hl 5 rfl) ?_
    refine lv_iconst (v := (4 : Int32)) hx hb dX0_attacks_181 (by decide) ?_
    refine lv_icmp_eq (tgt := 191) hx hb dX0_attacks_182 (by decide) (fun cc1 => ?_) (fun cc1 => ?_)
    · replace hf := m_ifT hf cc1
      exact w_X0_attacks_191 (x0 := x0) (x1 := x1) (x3 := x3) (x4 := x4) (x8 := x8) X hret hf hM (lv_sub hl [1, 2, 3, 4, 8] rfl)
    · replace hf := m_ifF hf cc1
      refine lv_iload hx hb dX0_attacks_185 (lv_at hl 5 rfl) ?_
      refine lv_iconst (v := (5 : Int32)) hx hb dX0_attacks_187 (by decide) ?_
      refine lv_icmp_ne (tgt := 195) hx hb dX0_attacks_188 (by decide) (fun cc1 => ?_) (fun cc1 => ?_)
      · replace hf := m_ifF hf cc1
        refine lv_iconst (v := (0 : Int32)) hx hb dX0_attacks_195 (by decide) ?_
        refine lv_goto (tgt := 223) hx hb dX0_attacks_196 (by decide) ?_
        exact w_X0_attacks_223 (x0 := x0) (x1 := x1) (x3 := x3) (x4 := x4) (x8 := x8) (t0 := (0 : Int32)) X hret hf hM (lv_sub hl [1, 2, 3, 4, 8] rfl)
      · replace hf := m_ifT hf cc1
        exact w_X0_attacks_191 (x0 := x0) (x1 := x1) (x3 := x3) (x4 := x4) (x8 := x8) X hret hf hM (lv_sub hl [1, 2, 3, 4, 8] rfl)
noncomputable def f_X0_attacks_167 (x0 : Nat) (x1 : Int32) (x3 : Int32) (x4 : Int32) (x5 : Int32) (x6 : Int32) (x7 : Int32) (x8 : Int32) (S : ZS) : Option (Int32 × ZS) :=
  f_X0_attacks_172 x0 x1 x3 x4 x5 x6 x7 x8 (1 : Int32) S

set_option maxRecDepth 100000 in
set_option maxHeartbeats 4000000 in
theorem w_X0_attacks_167 {p : Program} {l : Launch} {e : Env} {s : State} {m : MethodId} {args : Array Value} {below : List Frame} {meth : Method} {c : Code} {Q : State → Prop} {D : va_G} {y : Nat → ClassId} {A0 : Nat → Prop} {o : Int32 × ZS} (X : CallFix p m c cX0_attacks 13 s args wsX0_attacks RX0) (hret : zRi p l e ({ frames := 0, cells := 0, slots := 0, locals := 0 } : Room) s m args below meth c Q cX0_attacks D y A0 .boolean o) {x0 : Nat} {x1 : Int32} {x3 : Int32} {x4 : Int32} {x5 : Int32} {x6 : Int32} {x7 : Int32} {x8 : Int32} {S : ZS} {H : Heap} {locs : List Loc} {ls : Array Slot} (hf : f_X0_attacks_167 x0 x1 x3 x4 x5 x6 x7 x8 S = some o) (hM : zH D y A0 s H locs S) (hl : lv_has ls 13 [(0, .ref (zh y x0)), (1, .int x1), (3, .int x3), (4, .int x4), (5, .int x5), (6, .int x6), (7, .int x7), (8, .int x8)]) : W p l e ({ frames := 0, cells := 0, slots := 0, locals := 0 } : Room) s m args below meth c H locs 0 0 Q (F0 m 167 ls []) := by
  obtain ⟨hx, hb, hml, hown, hts⟩ := id X
  unfold f_X0_attacks_167 at hf
  refine lv_iconst (v := (1 : Int32)) hx hb dX0_attacks_167 (by decide) ?_
  refine lv_goto (tgt := 172) hx hb dX0_attacks_168 (by decide) ?_
  exact w_X0_attacks_172 (x0 := x0) (x1 := x1) (x3 := x3) (x4 := x4) (x5 := x5) (x6 := x6) (x7 := x7) (x8 := x8) (t0 := (1 : Int32)) X hret hf hM (lv_sub hl [0, 1, 2, 3, 4, 5, 6, 7] rfl)
noncomputable def f_X0_attacks_156 (t0 : Int32) (S : ZS) : Option (Int32 × ZS) :=
  m_chk (vp_nar .boolean t0 = t0) (some (t0, S))

set_option maxRecDepth 100000 in
set_option maxHeartbeats 4000000 in
theorem w_X0_attacks_156 {p : Program} {l : Launch} {e : Env} {s : State} {m : MethodId} {args : Array Value} {below : List Frame} {meth : Method} {c : Code} {Q : State → Prop} {D : va_G} {y : Nat → ClassId} {A0 : Nat → Prop} {o : Int32 × ZS} (X : CallFix p m c cX0_attacks 13 s args wsX0_attacks RX0) (hret : zRi p l e ({ frames := 0, cells := 0, slots := 0, locals := 0 } : Room) s m args below meth c Q cX0_attacks D y A0 .boolean o) {t0 : Int32} {S : ZS} {H : Heap} {locs : List Loc} {ls : Array Slot} (hf : f_X0_attacks_156 t0 S = some o) (hM : zH D y A0 s H locs S) (hl : lv_has ls 13 []) : W p l e ({ frames := 0, cells := 0, slots := 0, locals := 0 } : Room) s m args below meth c H locs 0 0 Q (F0 m 156 ls [.int t0]) := by
  obtain ⟨hx, hb, hml, hown, hts⟩ := id X
  unfold f_X0_attacks_156 at hf
  obtain ⟨cd, hf⟩ := m_chkE hf
  cases hf
  exact hret H locs _ ls hM (m_nb cd) dX0_attacks_156
noncomputable def f_X0_attacks_136 (x0 : Nat) (x1 : Int32) (x3 : Int32) (x4 : Int32) (x5 : Int32) (x6 : Int32) (x7 : Int32) (t0 : Int32) (S : ZS) : Option (Int32 × ZS) :=
  m_if (x5 = (6 : Int32)) (
  m_if (t0 = (1 : Int32)) (
  f_X0_attacks_156 (1 : Int32) S
  ) (
  f_X0_attacks_156 (0 : Int32) S
  )
  ) (
  m_if (x6 = 0) (
  f_X0_attacks_167 x0 x1 x3 x4 x5 x6 x7 t0 S
  ) (
  m_if (x7 = 0) (
  f_X0_attacks_167 x0 x1 x3 x4 x5 x6 x7 t0 S
  ) (
  f_X0_attacks_172 x0 x1 x3 x4 x5 x6 x7 t0 (0 : Int32) S
  )
  )
  )

set_option maxRecDepth 100000 in
set_option maxHeartbeats 4000000 in
theorem w_X0_attacks_136 {p : Program} {l : Launch} {e : Env} {s : State} {m : MethodId} {args : Array Value} {below : List Frame} {meth : Method} {c : Code} {Q : State → Prop} {D : va_G} {y : Nat → ClassId} {A0 : Nat → Prop} {o : Int32 × ZS} (X : CallFix p m c cX0_attacks 13 s args wsX0_attacks RX0) (hret : zRi p l e ({ frames := 0, cells := 0, slots := 0, locals := 0 } : Room) s m args below meth c Q cX0_attacks D y A0 .boolean o) {x0 : Nat} {x1 : Int32} {x3 : Int32} {x4 : Int32} {x5 : Int32} {x6 : Int32} {x7 : Int32} {t0 : Int32} {S : ZS} {H : Heap} {locs : List Loc} {ls : Array Slot} (hf : f_X0_attacks_136 x0 x1 x3 x4 x5 x6 x7 t0 S = some o) (hM : zH D y A0 s H locs S) (hl : lv_has ls 13 [(0, .ref (zh y x0)), (1, .int x1), (3, .int x3), (4, .int x4), (5, .int x5), (6, .int x6), (7, .int x7)]) : W p l e ({ frames := 0, cells := 0, slots := 0, locals := 0 } : Room) s m args below meth c H locs 0 0 Q (F0 m 136 ls [.int t0]) := by
  obtain ⟨hx, hb, hml, hown, hts⟩ := id X
  unfold f_X0_attacks_136 at hf
  refine lv_istore (lv' := [(8, .int t0), (0, .ref (zh y x0)), (1, .int x1), (3, .int x3), (4, .int x4), (5, .int x5), (6, .int x6), (7, .int x7)]) hx hb dX0_attacks_136 hl (by decide) rfl (fun ls hl => ?_)
  refine lv_iload hx hb dX0_attacks_138 (lv_at hl 5 rfl) ?_
  refine lv_bipush (v := (6 : Int32)) hx hb dX0_attacks_140 (by decide) ?_
  refine lv_icmp_ne (tgt := 157) hx hb dX0_attacks_142 (by decide) (fun cc1 => ?_) (fun cc1 => ?_)
  · replace hf := m_ifF hf cc1
    refine lv_iload hx hb dX0_attacks_157 (lv_at hl 6 rfl) ?_
    refine lv_if_eq (tgt := 167) hx hb dX0_attacks_159 (by decide) (fun cc1 => ?_) (fun cc1 => ?_)
    · replace hf := m_ifT hf cc1
      exact w_X0_attacks_167 (x0 := x0) (x1 := x1) (x3 := x3) (x4 := x4) (x5 := x5) (x6 := x6) (x7 := x7) (x8 := t0) X hret hf hM (lv_sub hl [1, 2, 3, 4, 5, 6, 7, 0] rfl)
    · replace hf := m_ifF hf cc1
      refine lv_iload hx hb dX0_attacks_162 (lv_at hl 7 rfl) ?_
      refine lv_if_ne (tgt := 171) hx hb dX0_attacks_164 (by decide) (fun cc1 => ?_) (fun cc1 => ?_)
      · replace hf := m_ifF hf cc1
        refine lv_iconst (v := (0 : Int32)) hx hb dX0_attacks_171 (by decide) ?_
        exact w_X0_attacks_172 (x0 := x0) (x1 := x1) (x3 := x3) (x4 := x4) (x5 := x5) (x6 := x6) (x7 := x7) (x8 := t0) (t0 := (0 : Int32)) X hret hf hM (lv_sub hl [1, 2, 3, 4, 5, 6, 7, 0] rfl)
      · replace hf := m_ifT hf cc1
        exact w_X0_attacks_167 (x0 := x0) (x1 := x1) (x3 := x3) (x4 := x4) (x5 := x5) (x6 := x6) (x7 := x7) (x8 := t0) X hret hf hM (lv_sub hl [1, 2, 3, 4, 5, 6, 7, 0] rfl)
  · replace hf := m_ifT hf cc1
    refine lv_iload hx hb dX0_attacks_145 (lv_at hl 0 rfl) ?_
    refine lv_iconst (v := (1 : Int32)) hx hb dX0_attacks_147 (by decide) ?_
    refine lv_icmp_ne (tgt := 155) hx hb dX0_attacks_148 (by decide) (fun cc1 => ?_) (fun cc1 => ?_)
    · replace hf := m_ifF hf cc1
      refine lv_iconst (v := (0 : Int32)) hx hb dX0_attacks_155 (by decide) ?_
      exact w_X0_attacks_156 (t0 := (0 : Int32)) X hret hf hM (lv_sub hl [] rfl)
    · replace hf := m_ifT hf cc1
      refine lv_iconst (v := (1 : Int32)) hx hb dX0_attacks_151 (by decide) ?_
      refine lv_goto (tgt := 156) hx hb dX0_attacks_152 (by decide) ?_
      exact w_X0_attacks_156 (t0 := (1 : Int32)) X hret hf hM (lv_sub hl [] rfl)
noncomputable def f_X0_attacks_120 (x0 : Nat) (x1 : Int32) (x3 : Int32) (x4 : Int32) (x5 : Int32) (x6 : Int32) (t0 : Int32) (S : ZS) : Option (Int32 × ZS) :=
  m_if (x6 ≤ t0) (
  f_X0_attacks_136 x0 x1 x3 x4 x5 x6 t0 t0 S
  ) (
  f_X0_attacks_136 x0 x1 x3 x4 x5 x6 t0 x6 S
  )

set_option maxRecDepth 100000 in
set_option maxHeartbeats 4000000 in
theorem w_X0_attacks_120 {p : Program} {l : Launch} {e : Env} {s : State} {m : MethodId} {args : Array Value} {below : List Frame} {meth : Method} {c : Code} {Q : State → Prop} {D : va_G} {y : Nat → ClassId} {A0 : Nat → Prop} {o : Int32 × ZS} (X : CallFix p m c cX0_attacks 13 s args wsX0_attacks RX0) (hret : zRi p l e ({ frames := 0, cells := 0, slots := 0, locals := 0 } : Room) s m args below meth c Q cX0_attacks D y A0 .boolean o) {x0 : Nat} {x1 : Int32} {x3 : Int32} {x4 : Int32} {x5 : Int32} {x6 : Int32} {t0 : Int32} {S : ZS} {H : Heap} {locs : List Loc} {ls : Array Slot} (hf : f_X0_attacks_120 x0 x1 x3 x4 x5 x6 t0 S = some o) (hM : zH D y A0 s H locs S) (hl : lv_has ls 13 [(0, .ref (zh y x0)), (1, .int x1), (3, .int x3), (4, .int x4), (5, .int x5), (6, .int x6)]) : W p l e ({ frames := 0, cells := 0, slots := 0, locals := 0 } : Room) s m args below meth c H locs 0 0 Q (F0 m 120 ls [.int t0]) := by
  obtain ⟨hx, hb, hml, hown, hts⟩ := id X
  unfold f_X0_attacks_120 at hf
  refine lv_istore (lv' := [(7, .int t0), (0, .ref (zh y x0)), (1, .int x1), (3, .int x3), (4, .int x4), (5, .int x5), (6, .int x6)]) hx hb dX0_attacks_120 hl (by decide) rfl (fun ls hl => ?_)
  refine lv_iload hx hb dX0_attacks_122 (lv_at hl 6 rfl) ?_
  refine lv_iload hx hb dX0_attacks_124 (lv_at hl 0 rfl) ?_
  refine lv_icmp_le (tgt := 134) hx hb dX0_attacks_126 (by decide) (fun cc1 => ?_) (fun cc1 => ?_)
  · replace hf := m_ifT hf cc1
    refine lv_iload hx hb dX0_attacks_134 (lv_at hl 0 rfl) ?_
    exact w_X0_attacks_136 (x0 := x0) (x1 := x1) (x3 := x3) (x4 := x4) (x5 := x5) (x6 := x6) (x7 := t0) (t0 := t0) X hret hf hM (lv_sub hl [1, 2, 3, 4, 5, 6, 0] rfl)
  · replace hf := m_ifF hf cc1
    refine lv_iload hx hb dX0_attacks_129 (lv_at hl 6 rfl) ?_
    refine lv_goto (tgt := 136) hx hb dX0_attacks_131 (by decide) ?_
    exact w_X0_attacks_136 (x0 := x0) (x1 := x1) (x3 := x3) (x4 := x4) (x5 := x5) (x6 := x6) (x7 := t0) (t0 := x6) X hret hf hM (lv_sub hl [1, 2, 3, 4, 5, 6, 0] rfl)
noncomputable def f_X0_attacks_105 (x0 : Nat) (x1 : Int32) (x3 : Int32) (x4 : Int32) (x5 : Int32) (t0 : Int32) (S : ZS) : Option (Int32 × ZS) :=
  m_if (0 ≤ x4) (
  f_X0_attacks_120 x0 x1 x3 x4 x5 t0 x4 S
  ) (
  m_bnd (-x4) (fun v1 =>
  f_X0_attacks_120 x0 x1 x3 x4 x5 t0 v1 S)
  )

set_option maxRecDepth 100000 in
set_option maxHeartbeats 4000000 in
theorem w_X0_attacks_105 {p : Program} {l : Launch} {e : Env} {s : State} {m : MethodId} {args : Array Value} {below : List Frame} {meth : Method} {c : Code} {Q : State → Prop} {D : va_G} {y : Nat → ClassId} {A0 : Nat → Prop} {o : Int32 × ZS} (X : CallFix p m c cX0_attacks 13 s args wsX0_attacks RX0) (hret : zRi p l e ({ frames := 0, cells := 0, slots := 0, locals := 0 } : Room) s m args below meth c Q cX0_attacks D y A0 .boolean o) {x0 : Nat} {x1 : Int32} {x3 : Int32} {x4 : Int32} {x5 : Int32} {t0 : Int32} {S : ZS} {H : Heap} {locs : List Loc} {ls : Array Slot} (hf : f_X0_attacks_105 x0 x1 x3 x4 x5 t0 S = some o) (hM : zH D y A0 s H locs S) (hl : lv_has ls 13 [(0, .ref (zh y x0)), (1, .int x1), (3, .int x3), (4, .int x4), (5, .int x5)]) : W p l e ({ frames := 0, cells := 0, slots := 0, locals := 0 } : Room) s m args below meth c H locs 0 0 Q (F0 m 105 ls [.int t0]) := by
  obtain ⟨hx, hb, hml, hown, hts⟩ := id X
  unfold f_X0_attacks_105 at hf
  refine lv_istore (lv' := [(6, .int t0), (0, .ref (zh y x0)), (1, .int x1), (3, .int x3), (4, .int x4), (5, .int x5)]) hx hb dX0_attacks_105 hl (by decide) rfl (fun ls hl => ?_)
  refine lv_iload hx hb dX0_attacks_107 (lv_at hl 4 rfl) ?_
  refine lv_if_ge (tgt := 118) hx hb dX0_attacks_109 (by decide) (fun cc1 => ?_) (fun cc1 => ?_)
  · replace hf := m_ifT hf cc1
    refine lv_iload hx hb dX0_attacks_118 (lv_at hl 4 rfl) ?_
    exact w_X0_attacks_120 (x0 := x0) (x1 := x1) (x3 := x3) (x4 := x4) (x5 := x5) (x6 := t0) (t0 := x4) X hret hf hM (lv_sub hl [1, 2, 3, 4, 5, 0] rfl)
  · replace hf := m_ifF hf cc1
    refine lv_iload hx hb dX0_attacks_112 (lv_at hl 4 rfl) ?_
    refine lv_ineg hx hb dX0_attacks_114 ?_
    obtain ⟨v1, ev, hf⟩ := m_bndE hf
    refine m_top ev ?_
    clear ev
    refine lv_goto (tgt := 120) hx hb dX0_attacks_115 (by decide) ?_
    exact w_X0_attacks_120 (x0 := x0) (x1 := x1) (x3 := x3) (x4 := x4) (x5 := x5) (x6 := t0) (t0 := v1) X hret hf hM (lv_sub hl [1, 2, 3, 4, 5, 0] rfl)
noncomputable def f_X0_attacks_94 (t0 : Int32) (S : ZS) : Option (Int32 × ZS) :=
  m_chk (vp_nar .boolean t0 = t0) (some (t0, S))

set_option maxRecDepth 100000 in
set_option maxHeartbeats 4000000 in
theorem w_X0_attacks_94 {p : Program} {l : Launch} {e : Env} {s : State} {m : MethodId} {args : Array Value} {below : List Frame} {meth : Method} {c : Code} {Q : State → Prop} {D : va_G} {y : Nat → ClassId} {A0 : Nat → Prop} {o : Int32 × ZS} (X : CallFix p m c cX0_attacks 13 s args wsX0_attacks RX0) (hret : zRi p l e ({ frames := 0, cells := 0, slots := 0, locals := 0 } : Room) s m args below meth c Q cX0_attacks D y A0 .boolean o) {t0 : Int32} {S : ZS} {H : Heap} {locs : List Loc} {ls : Array Slot} (hf : f_X0_attacks_94 t0 S = some o) (hM : zH D y A0 s H locs S) (hl : lv_has ls 13 []) : W p l e ({ frames := 0, cells := 0, slots := 0, locals := 0 } : Room) s m args below meth c H locs 0 0 Q (F0 m 94 ls [.int t0]) := by
  obtain ⟨hx, hb, hml, hown, hts⟩ := id X
  unfold f_X0_attacks_94 at hf
  obtain ⟨cd, hf⟩ := m_chkE hf
  cases hf
  exact hret H locs _ ls hM (m_nb cd) dX0_attacks_94
noncomputable def f_X0_attacks_69 (t0 : Int32) (S : ZS) : Option (Int32 × ZS) :=
  m_chk (vp_nar .boolean t0 = t0) (some (t0, S))

set_option maxRecDepth 100000 in
set_option maxHeartbeats 4000000 in
theorem w_X0_attacks_69 {p : Program} {l : Launch} {e : Env} {s : State} {m : MethodId} {args : Array Value} {below : List Frame} {meth : Method} {c : Code} {Q : State → Prop} {D : va_G} {y : Nat → ClassId} {A0 : Nat → Prop} {o : Int32 × ZS} (X : CallFix p m c cX0_attacks 13 s args wsX0_attacks RX0) (hret : zRi p l e ({ frames := 0, cells := 0, slots := 0, locals := 0 } : Room) s m args below meth c Q cX0_attacks D y A0 .boolean o) {t0 : Int32} {S : ZS} {H : Heap} {locs : List Loc} {ls : Array Slot} (hf : f_X0_attacks_69 t0 S = some o) (hM : zH D y A0 s H locs S) (hl : lv_has ls 13 []) : W p l e ({ frames := 0, cells := 0, slots := 0, locals := 0 } : Room) s m args below meth c H locs 0 0 Q (F0 m 69 ls [.int t0]) := by
  obtain ⟨hx, hb, hml, hown, hts⟩ := id X
  unfold f_X0_attacks_69 at hf
  obtain ⟨cd, hf⟩ := m_chkE hf
  cases hf
  exact hret H locs _ ls hM (m_nb cd) dX0_attacks_69
noncomputable def f_X0_attacks_68 (S : ZS) : Option (Int32 × ZS) :=
  f_X0_attacks_69 (0 : Int32) S

set_option maxRecDepth 100000 in
set_option maxHeartbeats 4000000 in
theorem w_X0_attacks_68 {p : Program} {l : Launch} {e : Env} {s : State} {m : MethodId} {args : Array Value} {below : List Frame} {meth : Method} {c : Code} {Q : State → Prop} {D : va_G} {y : Nat → ClassId} {A0 : Nat → Prop} {o : Int32 × ZS} (X : CallFix p m c cX0_attacks 13 s args wsX0_attacks RX0) (hret : zRi p l e ({ frames := 0, cells := 0, slots := 0, locals := 0 } : Room) s m args below meth c Q cX0_attacks D y A0 .boolean o) {S : ZS} {H : Heap} {locs : List Loc} {ls : Array Slot} (hf : f_X0_attacks_68  S = some o) (hM : zH D y A0 s H locs S) (hl : lv_has ls 13 []) : W p l e ({ frames := 0, cells := 0, slots := 0, locals := 0 } : Room) s m args below meth c H locs 0 0 Q (F0 m 68 ls []) := by
  obtain ⟨hx, hb, hml, hown, hts⟩ := id X
  unfold f_X0_attacks_68 at hf
  refine lv_iconst (v := (0 : Int32)) hx hb dX0_attacks_68 (by decide) ?_
  exact w_X0_attacks_69 (t0 := (0 : Int32)) X hret hf hM (lv_sub hl [] rfl)
noncomputable def f_X0_attacks_54 (x3 : Int32) (t0 : Int32) (t1 : Int32) (S : ZS) : Option (Int32 × ZS) :=
  m_if (t1 = t0) (
  m_bnd (x3 * x3) (fun v1 =>
  m_if (v1 = (1 : Int32)) (
  f_X0_attacks_69 (1 : Int32) S
  ) (
  f_X0_attacks_68  S
  ))
  ) (
  f_X0_attacks_68  S
  )

set_option maxRecDepth 100000 in
set_option maxHeartbeats 4000000 in
theorem w_X0_attacks_54 {p : Program} {l : Launch} {e : Env} {s : State} {m : MethodId} {args : Array Value} {below : List Frame} {meth : Method} {c : Code} {Q : State → Prop} {D : va_G} {y : Nat → ClassId} {A0 : Nat → Prop} {o : Int32 × ZS} (X : CallFix p m c cX0_attacks 13 s args wsX0_attacks RX0) (hret : zRi p l e ({ frames := 0, cells := 0, slots := 0, locals := 0 } : Room) s m args below meth c Q cX0_attacks D y A0 .boolean o) {x3 : Int32} {t0 : Int32} {t1 : Int32} {S : ZS} {H : Heap} {locs : List Loc} {ls : Array Slot} (hf : f_X0_attacks_54 x3 t0 t1 S = some o) (hM : zH D y A0 s H locs S) (hl : lv_has ls 13 [(3, .int x3)]) : W p l e ({ frames := 0, cells := 0, slots := 0, locals := 0 } : Room) s m args below meth c H locs 0 0 Q (F0 m 54 ls [.int t0, .int t1]) := by
  obtain ⟨hx, hb, hml, hown, hts⟩ := id X
  unfold f_X0_attacks_54 at hf
  refine lv_icmp_ne (tgt := 68) hx hb dX0_attacks_54 (by decide) (fun cc1 => ?_) (fun cc1 => ?_)
  · replace hf := m_ifF hf cc1
    exact w_X0_attacks_68 X hret hf hM (lv_sub hl [] rfl)
  · replace hf := m_ifT hf cc1
    refine lv_iload_n hx hb dX0_attacks_57 rfl (lv_at hl 0 rfl) ?_
    refine lv_iload_n hx hb dX0_attacks_58 rfl (lv_at hl 0 rfl) ?_
    refine lv_imul hx hb dX0_attacks_59 ?_
    obtain ⟨v1, ev, hf⟩ := m_bndE hf
    refine m_top ev ?_
    clear ev
    refine lv_iconst (v := (1 : Int32)) hx hb dX0_attacks_60 (by decide) ?_
    refine lv_icmp_ne (tgt := 68) hx hb dX0_attacks_61 (by decide) (fun cc1 => ?_) (fun cc1 => ?_)
    · replace hf := m_ifF hf cc1
      exact w_X0_attacks_68 X hret hf hM (lv_sub hl [] rfl)
    · replace hf := m_ifT hf cc1
      refine lv_iconst (v := (1 : Int32)) hx hb dX0_attacks_64 (by decide) ?_
      refine lv_goto (tgt := 69) hx hb dX0_attacks_65 (by decide) ?_
      exact w_X0_attacks_69 (t0 := (1 : Int32)) X hret hf hM (lv_sub hl [] rfl)
noncomputable def f_X0_attacks_0 (x0 : Nat) (x1 : Int32) (x2 : Int32) (S : ZS) : Option (Int32 × ZS) :=
  m_bnd (x2 &&& (7 : Int32)) (fun v1 =>
  m_bnd (x1 &&& (7 : Int32)) (fun v2 =>
  m_bnd (v1 - v2) (fun v3 =>
  m_bnd (x2 >>> ((3 : Int32) &&& 31)) (fun v4 =>
  m_bnd (x1 >>> ((3 : Int32) &&& 31)) (fun v5 =>
  m_bnd (v4 - v5) (fun v6 =>
  m_chk (zK S x0 = 0) (
  m_cal (zP S 0 x0) (fun b7 =>
  m_chk (zK S b7 = 14) (
  m_chk (¬ (x1 < 0 ∨ zN S b7 ≤ (x1).toNatClampNeg)) (
  m_bnd (zA S b7 (x1).toNatClampNeg) (fun v8 =>
  m_bnd (v8 &&& (7 : Int32)) (fun v9 =>
  m_if (v9 = (1 : Int32)) (
  m_chk (zK S x0 = 0) (
  m_cal (zP S 0 x0) (fun b14 =>
  m_chk (zK S b14 = 14) (
  m_chk (¬ (x1 < 0 ∨ zN S b14 ≤ (x1).toNatClampNeg)) (
  m_bnd (zA S b14 (x1).toNatClampNeg) (fun v15 =>
  m_if ((8 : Int32) ≤ v15) (
  f_X0_attacks_54 v3 (-1 : Int32) v6 S
  ) (
  f_X0_attacks_54 v3 (1 : Int32) v6 S
  ))))))
  ) (
  m_if (v9 = (2 : Int32)) (
  m_bnd (v3 * v3) (fun v11 =>
  m_bnd (v6 * v6) (fun v12 =>
  m_bnd (v11 + v12) (fun v13 =>
  m_if (v13 = (5 : Int32)) (
  f_X0_attacks_94 (1 : Int32) S
  ) (
  f_X0_attacks_94 (0 : Int32) S
  ))))
  ) (
  m_if (0 ≤ v3) (
  f_X0_attacks_105 x0 x1 v3 v6 v9 v3 S
  ) (
  m_bnd (-v3) (fun v10 =>
  f_X0_attacks_105 x0 x1 v3 v6 v9 v10 S)
  )
  )
  )))))))))))))

set_option maxRecDepth 100000 in
set_option maxHeartbeats 4000000 in
theorem w_X0_attacks_0 {p : Program} {l : Launch} {e : Env} {s : State} {m : MethodId} {args : Array Value} {below : List Frame} {meth : Method} {c : Code} {Q : State → Prop} {D : va_G} {y : Nat → ClassId} {A0 : Nat → Prop} {o : Int32 × ZS} (X : CallFix p m c cX0_attacks 13 s args wsX0_attacks RX0) (hret : zRi p l e ({ frames := 0, cells := 0, slots := 0, locals := 0 } : Room) s m args below meth c Q cX0_attacks D y A0 .boolean o) {x0 : Nat} {x1 : Int32} {x2 : Int32} {S : ZS} {H : Heap} {locs : List Loc} {ls : Array Slot} (hf : f_X0_attacks_0 x0 x1 x2 S = some o) (hM : zH D y A0 s H locs S) (hl : lv_has ls 13 [(0, .ref (zh y x0)), (1, .int x1), (2, .int x2)]) : W p l e ({ frames := 0, cells := 0, slots := 0, locals := 0 } : Room) s m args below meth c H locs 0 0 Q (F0 m 0 ls []) := by
  obtain ⟨hx, hb, hml, hown, hts⟩ := id X
  unfold f_X0_attacks_0 at hf
  refine lv_iload_n hx hb dX0_attacks_0 rfl (lv_at hl 2 rfl) ?_
  refine lv_bipush (v := (7 : Int32)) hx hb dX0_attacks_1 (by decide) ?_
  refine lv_iand hx hb dX0_attacks_3 ?_
  obtain ⟨v1, ev, hf⟩ := m_bndE hf
  refine m_top ev ?_
  clear ev
  refine lv_iload_n hx hb dX0_attacks_4 rfl (lv_at hl 1 rfl) ?_
  refine lv_bipush (v := (7 : Int32)) hx hb dX0_attacks_5 (by decide) ?_
  refine lv_iand hx hb dX0_attacks_7 ?_
  obtain ⟨v2, ev, hf⟩ := m_bndE hf
  refine m_top ev ?_
  clear ev
  refine lv_isub hx hb dX0_attacks_8 ?_
  obtain ⟨v3, ev, hf⟩ := m_bndE hf
  refine m_top ev ?_
  clear ev
  refine lv_istore_n (lv' := [(3, .int v3), (0, .ref (zh y x0)), (1, .int x1), (2, .int x2)]) hx hb dX0_attacks_9 rfl hl (by decide) rfl (fun ls hl => ?_)
  refine lv_iload_n hx hb dX0_attacks_10 rfl (lv_at hl 3 rfl) ?_
  refine lv_iconst (v := (3 : Int32)) hx hb dX0_attacks_11 (by decide) ?_
  refine lv_ishr hx hb dX0_attacks_12 ?_
  obtain ⟨v4, ev, hf⟩ := m_bndE hf
  refine m_top ev ?_
  clear ev
  refine lv_iload_n hx hb dX0_attacks_13 rfl (lv_at hl 2 rfl) ?_
  refine lv_iconst (v := (3 : Int32)) hx hb dX0_attacks_14 (by decide) ?_
  refine lv_ishr hx hb dX0_attacks_15 ?_
  obtain ⟨v5, ev, hf⟩ := m_bndE hf
  refine m_top ev ?_
  clear ev
  refine lv_isub hx hb dX0_attacks_16 ?_
  obtain ⟨v6, ev, hf⟩ := m_bndE hf
  refine m_top ev ?_
  clear ev
  refine lv_istore (lv' := [(4, .int v6), (3, .int v3), (0, .ref (zh y x0)), (1, .int x1), (2, .int x2)]) hx hb dX0_attacks_17 hl (by decide) rfl (fun ls hl => ?_)
  refine lv_aload_n hx hb dX0_attacks_19 rfl (lv_at hl 2 rfl) ?_
  obtain ⟨ca, hf⟩ := m_chkE hf
  replace ca := z_in hM (by decide) ca
  refine z_get (k := 0) (j := 0) (C := RX0) (T := TX0) (N := 7) (fl := zf_0) (v := va_rf ((zP S 0 x0).map (zh y))) X hw_X0_attacks_0 hM rfl zc_0 ca (by decide) fl_X0_attacks_0_0 rfl dX0_attacks_20 ?_
  clear ca
  obtain ⟨b7, hb9, hf⟩ := m_calE hf
  refine z_topr hb9 ?_
  clear hb9
  refine lv_iload_n hx hb dX0_attacks_23 rfl (lv_at hl 3 rfl) ?_
  obtain ⟨ca, hf⟩ := m_chkE hf
  replace ca := z_in hM (by decide) ca
  obtain ⟨cd, hf⟩ := m_chkE hf
  refine z_iald X hM ca cd dX0_attacks_24 ?_
  clear ca cd
  obtain ⟨v8, ev, hf⟩ := m_bndE hf
  refine m_top ev ?_
  clear ev
  refine lv_bipush (v := (7 : Int32)) hx hb dX0_attacks_25 (by decide) ?_
  refine lv_iand hx hb dX0_attacks_27 ?_
  obtain ⟨v9, ev, hf⟩ := m_bndE hf
  refine m_top ev ?_
  clear ev
  refine lv_istore (lv' := [(5, .int v9), (4, .int v6), (3, .int v3), (0, .ref (zh y x0)), (1, .int x1), (2, .int x2)]) hx hb dX0_attacks_28 hl (by decide) rfl (fun ls hl => ?_)
  refine lv_iload hx hb dX0_attacks_30 (lv_at hl 0 rfl) ?_
  refine lv_iconst (v := (1 : Int32)) hx hb dX0_attacks_32 (by decide) ?_
  refine lv_icmp_ne (tgt := 70) hx hb dX0_attacks_33 (by decide) (fun cc1 => ?_) (fun cc1 => ?_)
  · replace hf := m_ifF hf cc1
    refine lv_iload hx hb dX0_attacks_70 (lv_at hl 0 rfl) ?_
    refine lv_iconst (v := (2 : Int32)) hx hb dX0_attacks_72 (by decide) ?_
    refine lv_icmp_ne (tgt := 95) hx hb dX0_attacks_73 (by decide) (fun cc1 => ?_) (fun cc1 => ?_)
    · replace hf := m_ifF hf cc1
      refine lv_iload_n hx hb dX0_attacks_95 rfl (lv_at hl 2 rfl) ?_
      refine lv_if_ge (tgt := 104) hx hb dX0_attacks_96 (by decide) (fun cc1 => ?_) (fun cc1 => ?_)
      · replace hf := m_ifT hf cc1
        refine lv_iload_n hx hb dX0_attacks_104 rfl (lv_at hl 2 rfl) ?_
        exact w_X0_attacks_105 (x0 := x0) (x1 := x1) (x3 := v3) (x4 := v6) (x5 := v9) (t0 := v3) X hret hf hM (lv_sub hl [3, 4, 2, 1, 0] rfl)
      · replace hf := m_ifF hf cc1
        refine lv_iload_n hx hb dX0_attacks_99 rfl (lv_at hl 2 rfl) ?_
        refine lv_ineg hx hb dX0_attacks_100 ?_
        obtain ⟨v10, ev, hf⟩ := m_bndE hf
        refine m_top ev ?_
        clear ev
        refine lv_goto (tgt := 105) hx hb dX0_attacks_101 (by decide) ?_
        exact w_X0_attacks_105 (x0 := x0) (x1 := x1) (x3 := v3) (x4 := v6) (x5 := v9) (t0 := v10) X hret hf hM (lv_sub hl [3, 4, 2, 1, 0] rfl)
    · replace hf := m_ifT hf cc1
      refine lv_iload_n hx hb dX0_attacks_76 rfl (lv_at hl 2 rfl) ?_
      refine lv_iload_n hx hb dX0_attacks_77 rfl (lv_at hl 2 rfl) ?_
      refine lv_imul hx hb dX0_attacks_78 ?_
      obtain ⟨v11, ev, hf⟩ := m_bndE hf
      refine m_top ev ?_
      clear ev
      refine lv_iload hx hb dX0_attacks_79 (lv_at hl 1 rfl) ?_
      refine lv_iload hx hb dX0_attacks_81 (lv_at hl 1 rfl) ?_
      refine lv_imul hx hb dX0_attacks_83 ?_
      obtain ⟨v12, ev, hf⟩ := m_bndE hf
      refine m_top ev ?_
      clear ev
      refine lv_iadd hx hb dX0_attacks_84 ?_
      obtain ⟨v13, ev, hf⟩ := m_bndE hf
      refine m_top ev ?_
      clear ev
      refine lv_iconst (v := (5 : Int32)) hx hb dX0_attacks_85 (by decide) ?_
      refine lv_icmp_ne (tgt := 93) hx hb dX0_attacks_86 (by decide) (fun cc1 => ?_) (fun cc1 => ?_)
      · replace hf := m_ifF hf cc1
        refine lv_iconst (v := (0 : Int32)) hx hb dX0_attacks_93 (by decide) ?_
        exact w_X0_attacks_94 (t0 := (0 : Int32)) X hret hf hM (lv_sub hl [] rfl)
      · replace hf := m_ifT hf cc1
        refine lv_iconst (v := (1 : Int32)) hx hb dX0_attacks_89 (by decide) ?_
        refine lv_goto (tgt := 94) hx hb dX0_attacks_90 (by decide) ?_
        exact w_X0_attacks_94 (t0 := (1 : Int32)) X hret hf hM (lv_sub hl [] rfl)
  · replace hf := m_ifT hf cc1
    refine lv_iload hx hb dX0_attacks_36 (lv_at hl 1 rfl) ?_
    refine lv_aload_n hx hb dX0_attacks_38 rfl (lv_at hl 3 rfl) ?_
    obtain ⟨ca, hf⟩ := m_chkE hf
    replace ca := z_in hM (by decide) ca
    refine z_get (k := 0) (j := 0) (C := RX0) (T := TX0) (N := 7) (fl := zf_0) (v := va_rf ((zP S 0 x0).map (zh y))) X hw_X0_attacks_0 hM rfl zc_0 ca (by decide) fl_X0_attacks_0_0 rfl dX0_attacks_39 ?_
    clear ca
    obtain ⟨b14, hb9, hf⟩ := m_calE hf
    refine z_topr hb9 ?_
    clear hb9
    refine lv_iload_n hx hb dX0_attacks_42 rfl (lv_at hl 4 rfl) ?_
    obtain ⟨ca, hf⟩ := m_chkE hf
    replace ca := z_in hM (by decide) ca
    obtain ⟨cd, hf⟩ := m_chkE hf
    refine z_iald X hM ca cd dX0_attacks_43 ?_
    clear ca cd
    obtain ⟨v15, ev, hf⟩ := m_bndE hf
    refine m_top ev ?_
    clear ev
    refine lv_bipush (v := (8 : Int32)) hx hb dX0_attacks_44 (by decide) ?_
    refine lv_icmp_ge (tgt := 53) hx hb dX0_attacks_46 (by decide) (fun cc1 => ?_) (fun cc1 => ?_)
    · replace hf := m_ifT hf cc1
      refine lv_iconst (v := (-1 : Int32)) hx hb dX0_attacks_53 (by decide) ?_
      exact w_X0_attacks_54 (x3 := v3) (t0 := (-1 : Int32)) (t1 := v6) X hret hf hM (lv_sub hl [2] rfl)
    · replace hf := m_ifF hf cc1
      refine lv_iconst (v := (1 : Int32)) hx hb dX0_attacks_49 (by decide) ?_
      refine lv_goto (tgt := 54) hx hb dX0_attacks_50 (by decide) ?_
      exact w_X0_attacks_54 (x3 := v3) (t0 := (1 : Int32)) (t1 := v6) X hret hf hM (lv_sub hl [2] rfl)
noncomputable def f_X0_attacks (x0 : Nat) (x1 : Int32) (x2 : Int32) (S : ZS) : Option (Int32 × ZS) := f_X0_attacks_0 x0 x1 x2 S
theorem c_X0_attacks {l : Launch} {D : va_G} {y : Nat → ClassId} {x0 : Nat} {x1 : Int32} {x2 : Int32} {S : ZS} {o : Int32 × ZS} (hf : f_X0_attacks x0 x1 x2 S = some o) : zMi l yX0_attacks wsX0_attacks ({ frames := 0, cells := 0, slots := 0, locals := 0 } : Room) [.ref (zh y x0), .int x1, .int x2] D y S o :=
  z_entryI (own := RX0) (cc := cX0_attacks) (maxL := 13) (by decide) rfl rfl (Nat.le_of_ble_eq_true rfl) (fun p e s m args below meth c A0 Q H locs ls X hret hM hl => w_X0_attacks_0 X hret hf hM (lv_sub hl [0, 1, 2] rfl))
theorem hd_X0_attacked : yX0_attacked.cls = RX0 ∧ yX0_attacked.cls ≠ "java/lang/invoke/MethodHandle" ∧ yX0_attacked.cls ≠ "java/lang/invoke/VarHandle" ∧ (parseMethodDescriptor yX0_attacked.desc).map (fun d => d.parameters.length) = some 2 := by decide +kernel
theorem fl_X0_attacked_0_0 : Cond.fieldLink RX0 9 "MoveTexts$Board" "men" "[I" ∈ wsX0_attacked := by decide +kernel
theorem hw_X0_attacked_0 : ∀ w ∈ wsX00, w ∈ wsX0_attacked := by decide +kernel
noncomputable def f_X0_attacked_40 (self2 : Nat → Int32 → Int32 → Int32 → ZS → Option (Int32 × ZS)) (x0 : Nat) (x1 : Int32) (x2 : Int32) (x3 : Int32) (S : ZS) : Option (Int32 × ZS) :=
  m_bnd (x3 + (1 : Int32)) (fun v1 =>
  self2 x0 x1 x2 v1 S)

set_option maxRecDepth 100000 in
set_option maxHeartbeats 4000000 in
theorem w_X0_attacked_40 {p : Program} {l : Launch} {e : Env} {s : State} {m : MethodId} {args : Array Value} {below : List Frame} {meth : Method} {c : Code} {Q : State → Prop} {D : va_G} {y : Nat → ClassId} {A0 : Nat → Prop} {o : Int32 × ZS} (X : CallFix p m c cX0_attacked 4 s args wsX0_attacked RX0) (hret : zRi p l e ({ frames := 1, cells := 0, slots := 0, locals := 32 } : Room) s m args below meth c Q cX0_attacked D y A0 .boolean o) {self2 : Nat → Int32 → Int32 → Int32 → ZS → Option (Int32 × ZS)} (hself2 : ∀ (x0 : Nat) (x1 : Int32) (x2 : Int32) (x3 : Int32) (S : ZS) (H : Heap) (locs : List Loc) (ls : Array Slot), self2 x0 x1 x2 x3 S = some o → zH D y A0 s H locs S → lv_has ls 4 [(0, .ref (zh y x0)), (1, .int x1), (2, .int x2), (3, .int x3)] → W p l e ({ frames := 1, cells := 0, slots := 0, locals := 32 } : Room) s m args below meth c H locs 0 0 Q (F0 m 2 ls [])) {x0 : Nat} {x1 : Int32} {x2 : Int32} {x3 : Int32} {S : ZS} {H : Heap} {locs : List Loc} {ls : Array Slot} (hf : f_X0_attacked_40 self2 x0 x1 x2 x3 S = some o) (hM : zH D y A0 s H locs S) (hl : lv_has ls 4 [(0, .ref (zh y x0)), (1, .int x1), (2, .int x2), (3, .int x3)]) : W p l e ({ frames := 1, cells := 0, slots := 0, locals := 32 } : Room) s m args below meth c H locs 0 0 Q (F0 m 40 ls []) := by
  obtain ⟨hx, hb, hml, hown, hts⟩ := id X
  unfold f_X0_attacked_40 at hf
  obtain ⟨v1, ev, hf⟩ := m_bndE hf
  refine lv_iinc (v := v1) (lv' := [(3, .int v1), (0, .ref (zh y x0)), (1, .int x1), (2, .int x2)]) hx hb dX0_attacked_40 hl (k := 3) rfl (by rw [ev]; rfl) (by decide) rfl (fun ls hl => ?_)
  clear ev
  refine lv_goto (tgt := 2) hx hb dX0_attacked_43 (by decide) ?_
  exact hself2 x0 x1 x2 v1 _ _ _ _ hf hM (lv_sub hl [1, 2, 3, 0] rfl)
noncomputable def f_X0_attacked_2s (self2 : Nat → Int32 → Int32 → Int32 → ZS → Option (Int32 × ZS)) (x0 : Nat) (x1 : Int32) (x2 : Int32) (x3 : Int32) (S : ZS) : Option (Int32 × ZS) :=
  m_if ((64 : Int32) ≤ x3) (
  m_chk (vp_nar .boolean (0 : Int32) = (0 : Int32)) (some ((0 : Int32), S))
  ) (
  m_chk (zK S x0 = 0) (
  m_cal (zP S 0 x0) (fun b1 =>
  m_chk (zK S b1 = 14) (
  m_chk (¬ (x3 < 0 ∨ zN S b1 ≤ (x3).toNatClampNeg)) (
  m_bnd (zA S b1 (x3).toNatClampNeg) (fun v2 =>
  m_if (v2 = 0) (
  f_X0_attacked_40 self2 x0 x1 x2 x3 S
  ) (
  m_chk (zK S x0 = 0) (
  m_cal (zP S 0 x0) (fun b3 =>
  m_chk (zK S b3 = 14) (
  m_chk (¬ (x3 < 0 ∨ zN S b3 ≤ (x3).toNatClampNeg)) (
  m_bnd (zA S b3 (x3).toNatClampNeg) (fun v4 =>
  m_bnd (v4 >>> ((3 : Int32) &&& 31)) (fun v5 =>
  m_if (v5 = x2) (
  m_chk (zK S x0 = 0) (
  m_cal (f_X0_attacks x0 x3 x1 S) (fun o6 =>
  m_if (o6.1 = 0) (
  f_X0_attacked_40 self2 x0 x1 x2 x3 o6.2
  ) (
  m_chk (vp_nar .boolean (1 : Int32) = (1 : Int32)) (some ((1 : Int32), o6.2))
  )))
  ) (
  f_X0_attacked_40 self2 x0 x1 x2 x3 S
  )))))))
  ))))))
  )

set_option maxRecDepth 100000 in
set_option maxHeartbeats 4000000 in
theorem ws_X0_attacked_2 {p : Program} {l : Launch} {e : Env} {s : State} {m : MethodId} {args : Array Value} {below : List Frame} {meth : Method} {c : Code} {Q : State → Prop} {D : va_G} {y : Nat → ClassId} {A0 : Nat → Prop} {o : Int32 × ZS} (X : CallFix p m c cX0_attacked 4 s args wsX0_attacked RX0) (hret : zRi p l e ({ frames := 1, cells := 0, slots := 0, locals := 32 } : Room) s m args below meth c Q cX0_attacked D y A0 .boolean o) {self2 : Nat → Int32 → Int32 → Int32 → ZS → Option (Int32 × ZS)} (hself2 : ∀ (x0 : Nat) (x1 : Int32) (x2 : Int32) (x3 : Int32) (S : ZS) (H : Heap) (locs : List Loc) (ls : Array Slot), self2 x0 x1 x2 x3 S = some o → zH D y A0 s H locs S → lv_has ls 4 [(0, .ref (zh y x0)), (1, .int x1), (2, .int x2), (3, .int x3)] → W p l e ({ frames := 1, cells := 0, slots := 0, locals := 32 } : Room) s m args below meth c H locs 0 0 Q (F0 m 2 ls [])) {x0 : Nat} {x1 : Int32} {x2 : Int32} {x3 : Int32} {S : ZS} {H : Heap} {locs : List Loc} {ls : Array Slot} (hf : f_X0_attacked_2s self2 x0 x1 x2 x3 S = some o) (hM : zH D y A0 s H locs S) (hl : lv_has ls 4 [(0, .ref (zh y x0)), (1, .int x1), (2, .int x2), (3, .int x3)]) : W p l e ({ frames := 1, cells := 0, slots := 0, locals := 32 } : Room) s m args below meth c H locs 0 0 Q (F0 m 2 ls []) := by
  obtain ⟨hx, hb, hml, hown, hts⟩ := id X
  unfold f_X0_attacked_2s at hf
  refine lv_iload_n hx hb dX0_attacked_2 rfl (lv_at hl 3 rfl) ?_
  refine lv_bipush (v := (64 : Int32)) hx hb dX0_attacked_3 (by decide) ?_
  refine lv_icmp_ge (tgt := 46) hx hb dX0_attacked_5 (by decide) (fun cc1 => ?_) (fun cc1 => ?_)
  · replace hf := m_ifT hf cc1
    refine lv_iconst (v := (0 : Int32)) hx hb dX0_attacked_46 (by decide) ?_
    obtain ⟨cd, hf⟩ := m_chkE hf
    cases hf
    exact hret H locs _ ls hM (m_nb cd) dX0_attacked_47
  · replace hf := m_ifF hf cc1
    refine lv_aload_n hx hb dX0_attacked_8 rfl (lv_at hl 0 rfl) ?_
    obtain ⟨ca, hf⟩ := m_chkE hf
    replace ca := z_in hM (by decide) ca
    refine z_get (k := 0) (j := 0) (C := RX0) (T := TX0) (N := 7) (fl := zf_0) (v := va_rf ((zP S 0 x0).map (zh y))) X hw_X0_attacked_0 hM rfl zc_0 ca (by decide) fl_X0_attacked_0_0 rfl dX0_attacked_9 ?_
    clear ca
    obtain ⟨b1, hb9, hf⟩ := m_calE hf
    refine z_topr hb9 ?_
    clear hb9
    refine lv_iload_n hx hb dX0_attacked_12 rfl (lv_at hl 3 rfl) ?_
    obtain ⟨ca, hf⟩ := m_chkE hf
    replace ca := z_in hM (by decide) ca
    obtain ⟨cd, hf⟩ := m_chkE hf
    refine z_iald X hM ca cd dX0_attacked_13 ?_
    clear ca cd
    obtain ⟨v2, ev, hf⟩ := m_bndE hf
    refine m_top ev ?_
    clear ev
    refine lv_if_eq (tgt := 40) hx hb dX0_attacked_14 (by decide) (fun cc1 => ?_) (fun cc1 => ?_)
    · replace hf := m_ifT hf cc1
      exact w_X0_attacked_40 (x0 := x0) (x1 := x1) (x2 := x2) (x3 := x3) X hret hself2 hf hM (lv_sub hl [0, 1, 2, 3] rfl)
    · replace hf := m_ifF hf cc1
      refine lv_aload_n hx hb dX0_attacked_17 rfl (lv_at hl 0 rfl) ?_
      obtain ⟨ca, hf⟩ := m_chkE hf
      replace ca := z_in hM (by decide) ca
      refine z_get (k := 0) (j := 0) (C := RX0) (T := TX0) (N := 7) (fl := zf_0) (v := va_rf ((zP S 0 x0).map (zh y))) X hw_X0_attacked_0 hM rfl zc_0 ca (by decide) fl_X0_attacked_0_0 rfl dX0_attacked_18 ?_
      clear ca
      obtain ⟨b3, hb9, hf⟩ := m_calE hf
      refine z_topr hb9 ?_
      clear hb9
      refine lv_iload_n hx hb dX0_attacked_21 rfl (lv_at hl 3 rfl) ?_
      obtain ⟨ca, hf⟩ := m_chkE hf
      replace ca := z_in hM (by decide) ca
      obtain ⟨cd, hf⟩ := m_chkE hf
      refine z_iald X hM ca cd dX0_attacked_22 ?_
      clear ca cd
      obtain ⟨v4, ev, hf⟩ := m_bndE hf
      refine m_top ev ?_
      clear ev
      refine lv_iconst (v := (3 : Int32)) hx hb dX0_attacked_23 (by decide) ?_
      refine lv_ishr hx hb dX0_attacked_24 ?_
      obtain ⟨v5, ev, hf⟩ := m_bndE hf
      refine m_top ev ?_
      clear ev
      refine lv_iload_n hx hb dX0_attacked_25 rfl (lv_at hl 2 rfl) ?_
      refine lv_icmp_ne (tgt := 40) hx hb dX0_attacked_26 (by decide) (fun cc1 => ?_) (fun cc1 => ?_)
      · replace hf := m_ifF hf cc1
        exact w_X0_attacked_40 (x0 := x0) (x1 := x1) (x2 := x2) (x3 := x3) X hret hself2 hf hM (lv_sub hl [0, 1, 2, 3] rfl)
      · replace hf := m_ifT hf cc1
        refine lv_aload_n hx hb dX0_attacked_29 rfl (lv_at hl 0 rfl) ?_
        refine lv_iload_n hx hb dX0_attacked_30 rfl (lv_at hl 3 rfl) ?_
        refine lv_iload_n hx hb dX0_attacked_31 rfl (lv_at hl 1 rfl) ?_
        obtain ⟨ca, hf⟩ := m_chkE hf
        replace ca := z_in hM (by decide) ca
        obtain ⟨o6, ho, hf⟩ := m_calE hf
        refine z_callVi (k := 0) (C := RX0) (T := TX0) (N := 7) (fl := zf_0) X hM rfl zc_0 ca (c_X0_attacks ho) gX0_attacked_X0_attacks rfl ⟨rfl, rfl⟩ hd_X0_attacks ⟨Nat.le_of_ble_eq_true rfl, Nat.le_of_ble_eq_true rfl⟩ rfl hl.1 rfl (Nat.le_of_ble_eq_true rfl) dX0_attacked_32 (fun H locs hM => ?_)
        clear ho
        refine lv_if_eq (tgt := 40) hx hb dX0_attacked_35 (by decide) (fun cc1 => ?_) (fun cc1 => ?_)
        · replace hf := m_ifT hf cc1
          exact w_X0_attacked_40 (x0 := x0) (x1 := x1) (x2 := x2) (x3 := x3) X hret hself2 hf hM (lv_sub hl [0, 1, 2, 3] rfl)
        · replace hf := m_ifF hf cc1
          refine lv_iconst (v := (1 : Int32)) hx hb dX0_attacked_38 (by decide) ?_
          obtain ⟨cd, hf⟩ := m_chkE hf
          cases hf
          exact hret H locs _ ls hM (m_nb cd) dX0_attacked_39
noncomputable def f_X0_attacked_2 : Nat → Nat → Int32 → Int32 → Int32 → ZS → Option (Int32 × ZS)
  | 0 => fun _ _ _ _ _ => none
  | n + 1 => f_X0_attacked_2s (f_X0_attacked_2 n)
theorem w_X0_attacked_2 {p : Program} {l : Launch} {e : Env} {s : State} {m : MethodId} {args : Array Value} {below : List Frame} {meth : Method} {c : Code} {Q : State → Prop} {D : va_G} {y : Nat → ClassId} {A0 : Nat → Prop} {o : Int32 × ZS} (X : CallFix p m c cX0_attacked 4 s args wsX0_attacked RX0) (hret : zRi p l e ({ frames := 1, cells := 0, slots := 0, locals := 32 } : Room) s m args below meth c Q cX0_attacked D y A0 .boolean o) (n : Nat) : ∀ (x0 : Nat) (x1 : Int32) (x2 : Int32) (x3 : Int32) (S : ZS) (H : Heap) (locs : List Loc) (ls : Array Slot), f_X0_attacked_2 n x0 x1 x2 x3 S = some o → zH D y A0 s H locs S → lv_has ls 4 [(0, .ref (zh y x0)), (1, .int x1), (2, .int x2), (3, .int x3)] → W p l e ({ frames := 1, cells := 0, slots := 0, locals := 32 } : Room) s m args below meth c H locs 0 0 Q (F0 m 2 ls []) := by
  induction n with
  | zero => intro x0 x1 x2 x3 S H locs ls hf; cases hf
  | succ n ih => intro x0 x1 x2 x3 S H locs ls hf hM hl; exact ws_X0_attacked_2 X hret (self2 := f_X0_attacked_2 n) ih hf hM hl
noncomputable def f_X0_attacked_0 (x0 : Nat) (x1 : Int32) (x2 : Int32) (S : ZS) : Option (Int32 × ZS) :=
  f_X0_attacked_2 mFuel x0 x1 x2 (0 : Int32) S

set_option maxRecDepth 100000 in
set_option maxHeartbeats 4000000 in
theorem w_X0_attacked_0 {p : Program} {l : Launch} {e : Env} {s : State} {m : MethodId} {args : Array Value} {below : List Frame} {meth : Method} {c : Code} {Q : State → Prop} {D : va_G} {y : Nat → ClassId} {A0 : Nat → Prop} {o : Int32 × ZS} (X : CallFix p m c cX0_attacked 4 s args wsX0_attacked RX0) (hret : zRi p l e ({ frames := 1, cells := 0, slots := 0, locals := 32 } : Room) s m args below meth c Q cX0_attacked D y A0 .boolean o) {x0 : Nat} {x1 : Int32} {x2 : Int32} {S : ZS} {H : Heap} {locs : List Loc} {ls : Array Slot} (hf : f_X0_attacked_0 x0 x1 x2 S = some o) (hM : zH D y A0 s H locs S) (hl : lv_has ls 4 [(0, .ref (zh y x0)), (1, .int x1), (2, .int x2)]) : W p l e ({ frames := 1, cells := 0, slots := 0, locals := 32 } : Room) s m args below meth c H locs 0 0 Q (F0 m 0 ls []) := by
  obtain ⟨hx, hb, hml, hown, hts⟩ := id X
  unfold f_X0_attacked_0 at hf
  refine lv_iconst (v := (0 : Int32)) hx hb dX0_attacked_0 (by decide) ?_
  refine lv_istore_n (lv' := [(3, .int (0 : Int32)), (0, .ref (zh y x0)), (1, .int x1), (2, .int x2)]) hx hb dX0_attacked_1 rfl hl (by decide) rfl (fun ls hl => ?_)
  exact w_X0_attacked_2 X hret _ x0 x1 x2 (0 : Int32) _ _ _ _ hf hM (lv_sub hl [1, 2, 3, 0] rfl)
noncomputable def f_X0_attacked (x0 : Nat) (x1 : Int32) (x2 : Int32) (S : ZS) : Option (Int32 × ZS) := f_X0_attacked_0 x0 x1 x2 S
theorem c_X0_attacked {l : Launch} {D : va_G} {y : Nat → ClassId} {x0 : Nat} {x1 : Int32} {x2 : Int32} {S : ZS} {o : Int32 × ZS} (hf : f_X0_attacked x0 x1 x2 S = some o) : zMi l yX0_attacked wsX0_attacked ({ frames := 1, cells := 0, slots := 0, locals := 32 } : Room) [.ref (zh y x0), .int x1, .int x2] D y S o :=
  z_entryI (own := RX0) (cc := cX0_attacked) (maxL := 4) (by decide) rfl rfl (Nat.le_of_ble_eq_true rfl) (fun p e s m args below meth c A0 Q H locs ls X hret hM hl => w_X0_attacked_0 X hret hf hM (lv_sub hl [0, 1, 2] rfl))
theorem hd_X0_pawnReaches : yX0_pawnReaches.cls = RX0 ∧ yX0_pawnReaches.cls ≠ "java/lang/invoke/MethodHandle" ∧ yX0_pawnReaches.cls ≠ "java/lang/invoke/VarHandle" ∧ (parseMethodDescriptor yX0_pawnReaches.desc).map (fun d => d.parameters.length) = some 2 := by decide +kernel
theorem fl_X0_pawnReaches_0_0 : Cond.fieldLink RX0 9 "MoveTexts$Board" "men" "[I" ∈ wsX0_pawnReaches := by decide +kernel
theorem fl_X0_pawnReaches_0_3 : Cond.fieldLink RX0 22 "MoveTexts$Board" "side" "I" ∈ wsX0_pawnReaches := by decide +kernel
theorem fl_X0_pawnReaches_0_5 : Cond.fieldLink RX0 28 "MoveTexts$Board" "passed" "I" ∈ wsX0_pawnReaches := by decide +kernel
theorem hw_X0_pawnReaches_0 : ∀ w ∈ wsX00, w ∈ wsX0_pawnReaches := by decide +kernel
noncomputable def f_X0_pawnReaches_122 (t0 : Int32) (S : ZS) : Option (Int32 × ZS) :=
  m_chk (vp_nar .boolean t0 = t0) (some (t0, S))

set_option maxRecDepth 100000 in
set_option maxHeartbeats 4000000 in
theorem w_X0_pawnReaches_122 {p : Program} {l : Launch} {e : Env} {s : State} {m : MethodId} {args : Array Value} {below : List Frame} {meth : Method} {c : Code} {Q : State → Prop} {D : va_G} {y : Nat → ClassId} {A0 : Nat → Prop} {o : Int32 × ZS} (X : CallFix p m c cX0_pawnReaches 4 s args wsX0_pawnReaches RX0) (hret : zRi p l e ({ frames := 1, cells := 0, slots := 0, locals := 32 } : Room) s m args below meth c Q cX0_pawnReaches D y A0 .boolean o) {t0 : Int32} {S : ZS} {H : Heap} {locs : List Loc} {ls : Array Slot} (hf : f_X0_pawnReaches_122 t0 S = some o) (hM : zH D y A0 s H locs S) (hl : lv_has ls 4 []) : W p l e ({ frames := 1, cells := 0, slots := 0, locals := 32 } : Room) s m args below meth c H locs 0 0 Q (F0 m 122 ls [.int t0]) := by
  obtain ⟨hx, hb, hml, hown, hts⟩ := id X
  unfold f_X0_pawnReaches_122 at hf
  obtain ⟨cd, hf⟩ := m_chkE hf
  cases hf
  exact hret H locs _ ls hM (m_nb cd) dX0_pawnReaches_122
noncomputable def f_X0_pawnReaches_121 (S : ZS) : Option (Int32 × ZS) :=
  f_X0_pawnReaches_122 (0 : Int32) S

set_option maxRecDepth 100000 in
set_option maxHeartbeats 4000000 in
theorem w_X0_pawnReaches_121 {p : Program} {l : Launch} {e : Env} {s : State} {m : MethodId} {args : Array Value} {below : List Frame} {meth : Method} {c : Code} {Q : State → Prop} {D : va_G} {y : Nat → ClassId} {A0 : Nat → Prop} {o : Int32 × ZS} (X : CallFix p m c cX0_pawnReaches 4 s args wsX0_pawnReaches RX0) (hret : zRi p l e ({ frames := 1, cells := 0, slots := 0, locals := 32 } : Room) s m args below meth c Q cX0_pawnReaches D y A0 .boolean o) {S : ZS} {H : Heap} {locs : List Loc} {ls : Array Slot} (hf : f_X0_pawnReaches_121  S = some o) (hM : zH D y A0 s H locs S) (hl : lv_has ls 4 []) : W p l e ({ frames := 1, cells := 0, slots := 0, locals := 32 } : Room) s m args below meth c H locs 0 0 Q (F0 m 121 ls []) := by
  obtain ⟨hx, hb, hml, hown, hts⟩ := id X
  unfold f_X0_pawnReaches_121 at hf
  refine lv_iconst (v := (0 : Int32)) hx hb dX0_pawnReaches_121 (by decide) ?_
  exact w_X0_pawnReaches_122 (t0 := (0 : Int32)) X hret hf hM (lv_sub hl [] rfl)
noncomputable def f_X0_pawnReaches_117 (S : ZS) : Option (Int32 × ZS) :=
  f_X0_pawnReaches_122 (1 : Int32) S

set_option maxRecDepth 100000 in
set_option maxHeartbeats 4000000 in
theorem w_X0_pawnReaches_117 {p : Program} {l : Launch} {e : Env} {s : State} {m : MethodId} {args : Array Value} {below : List Frame} {meth : Method} {c : Code} {Q : State → Prop} {D : va_G} {y : Nat → ClassId} {A0 : Nat → Prop} {o : Int32 × ZS} (X : CallFix p m c cX0_pawnReaches 4 s args wsX0_pawnReaches RX0) (hret : zRi p l e ({ frames := 1, cells := 0, slots := 0, locals := 32 } : Room) s m args below meth c Q cX0_pawnReaches D y A0 .boolean o) {S : ZS} {H : Heap} {locs : List Loc} {ls : Array Slot} (hf : f_X0_pawnReaches_117  S = some o) (hM : zH D y A0 s H locs S) (hl : lv_has ls 4 []) : W p l e ({ frames := 1, cells := 0, slots := 0, locals := 32 } : Room) s m args below meth c H locs 0 0 Q (F0 m 117 ls []) := by
  obtain ⟨hx, hb, hml, hown, hts⟩ := id X
  unfold f_X0_pawnReaches_117 at hf
  refine lv_iconst (v := (1 : Int32)) hx hb dX0_pawnReaches_117 (by decide) ?_
  refine lv_goto (tgt := 122) hx hb dX0_pawnReaches_118 (by decide) ?_
  exact w_X0_pawnReaches_122 (t0 := (1 : Int32)) X hret hf hM (lv_sub hl [] rfl)
noncomputable def f_X0_pawnReaches_90 (t0 : Int32) (S : ZS) : Option (Int32 × ZS) :=
  m_chk (vp_nar .boolean t0 = t0) (some (t0, S))

set_option maxRecDepth 100000 in
set_option maxHeartbeats 4000000 in
theorem w_X0_pawnReaches_90 {p : Program} {l : Launch} {e : Env} {s : State} {m : MethodId} {args : Array Value} {below : List Frame} {meth : Method} {c : Code} {Q : State → Prop} {D : va_G} {y : Nat → ClassId} {A0 : Nat → Prop} {o : Int32 × ZS} (X : CallFix p m c cX0_pawnReaches 4 s args wsX0_pawnReaches RX0) (hret : zRi p l e ({ frames := 1, cells := 0, slots := 0, locals := 32 } : Room) s m args below meth c Q cX0_pawnReaches D y A0 .boolean o) {t0 : Int32} {S : ZS} {H : Heap} {locs : List Loc} {ls : Array Slot} (hf : f_X0_pawnReaches_90 t0 S = some o) (hM : zH D y A0 s H locs S) (hl : lv_has ls 4 []) : W p l e ({ frames := 1, cells := 0, slots := 0, locals := 32 } : Room) s m args below meth c H locs 0 0 Q (F0 m 90 ls [.int t0]) := by
  obtain ⟨hx, hb, hml, hown, hts⟩ := id X
  unfold f_X0_pawnReaches_90 at hf
  obtain ⟨cd, hf⟩ := m_chkE hf
  cases hf
  exact hret H locs _ ls hM (m_nb cd) dX0_pawnReaches_90
noncomputable def f_X0_pawnReaches_89 (S : ZS) : Option (Int32 × ZS) :=
  f_X0_pawnReaches_90 (0 : Int32) S

set_option maxRecDepth 100000 in
set_option maxHeartbeats 4000000 in
theorem w_X0_pawnReaches_89 {p : Program} {l : Launch} {e : Env} {s : State} {m : MethodId} {args : Array Value} {below : List Frame} {meth : Method} {c : Code} {Q : State → Prop} {D : va_G} {y : Nat → ClassId} {A0 : Nat → Prop} {o : Int32 × ZS} (X : CallFix p m c cX0_pawnReaches 4 s args wsX0_pawnReaches RX0) (hret : zRi p l e ({ frames := 1, cells := 0, slots := 0, locals := 32 } : Room) s m args below meth c Q cX0_pawnReaches D y A0 .boolean o) {S : ZS} {H : Heap} {locs : List Loc} {ls : Array Slot} (hf : f_X0_pawnReaches_89  S = some o) (hM : zH D y A0 s H locs S) (hl : lv_has ls 4 []) : W p l e ({ frames := 1, cells := 0, slots := 0, locals := 32 } : Room) s m args below meth c H locs 0 0 Q (F0 m 89 ls []) := by
  obtain ⟨hx, hb, hml, hown, hts⟩ := id X
  unfold f_X0_pawnReaches_89 at hf
  refine lv_iconst (v := (0 : Int32)) hx hb dX0_pawnReaches_89 (by decide) ?_
  exact w_X0_pawnReaches_90 (t0 := (0 : Int32)) X hret hf hM (lv_sub hl [] rfl)
noncomputable def f_X0_pawnReaches_62 (x0 : Nat) (x1 : Int32) (x2 : Int32) (x3 : Int32) (t0 : Int32) (t1 : Int32) (S : ZS) : Option (Int32 × ZS) :=
  m_if (t1 = t0) (
  m_chk (zK S x0 = 0) (
  m_cal (zP S 0 x0) (fun b1 =>
  m_bnd (x1 + x3) (fun v2 =>
  m_chk (zK S b1 = 14) (
  m_chk (¬ (v2 < 0 ∨ zN S b1 ≤ (v2).toNatClampNeg)) (
  m_bnd (zA S b1 (v2).toNatClampNeg) (fun v3 =>
  m_if (v3 = 0) (
  m_chk (zK S x0 = 0) (
  m_cal (zP S 0 x0) (fun b4 =>
  m_chk (zK S b4 = 14) (
  m_chk (¬ (x2 < 0 ∨ zN S b4 ≤ (x2).toNatClampNeg)) (
  m_bnd (zA S b4 (x2).toNatClampNeg) (fun v5 =>
  m_if (v5 = 0) (
  f_X0_pawnReaches_90 (1 : Int32) S
  ) (
  f_X0_pawnReaches_89  S
  ))))))
  ) (
  f_X0_pawnReaches_89  S
  )))))))
  ) (
  f_X0_pawnReaches_89  S
  )

set_option maxRecDepth 100000 in
set_option maxHeartbeats 4000000 in
theorem w_X0_pawnReaches_62 {p : Program} {l : Launch} {e : Env} {s : State} {m : MethodId} {args : Array Value} {below : List Frame} {meth : Method} {c : Code} {Q : State → Prop} {D : va_G} {y : Nat → ClassId} {A0 : Nat → Prop} {o : Int32 × ZS} (X : CallFix p m c cX0_pawnReaches 4 s args wsX0_pawnReaches RX0) (hret : zRi p l e ({ frames := 1, cells := 0, slots := 0, locals := 32 } : Room) s m args below meth c Q cX0_pawnReaches D y A0 .boolean o) {x0 : Nat} {x1 : Int32} {x2 : Int32} {x3 : Int32} {t0 : Int32} {t1 : Int32} {S : ZS} {H : Heap} {locs : List Loc} {ls : Array Slot} (hf : f_X0_pawnReaches_62 x0 x1 x2 x3 t0 t1 S = some o) (hM : zH D y A0 s H locs S) (hl : lv_has ls 4 [(0, .ref (zh y x0)), (1, .int x1), (2, .int x2), (3, .int x3)]) : W p l e ({ frames := 1, cells := 0, slots := 0, locals := 32 } : Room) s m args below meth c H locs 0 0 Q (F0 m 62 ls [.int t0, .int t1]) := by
  obtain ⟨hx, hb, hml, hown, hts⟩ := id X
  unfold f_X0_pawnReaches_62 at hf
  refine lv_icmp_ne (tgt := 89) hx hb dX0_pawnReaches_62 (by decide) (fun cc1 => ?_) (fun cc1 => ?_)
  · replace hf := m_ifF hf cc1
    exact w_X0_pawnReaches_89 X hret hf hM (lv_sub hl [] rfl)
  · replace hf := m_ifT hf cc1
    refine lv_aload_n hx hb dX0_pawnReaches_65 rfl (lv_at hl 0 rfl) ?_
    obtain ⟨ca, hf⟩ := m_chkE hf
    replace ca := z_in hM (by decide) ca
    refine z_get (k := 0) (j := 0) (C := RX0) (T := TX0) (N := 7) (fl := zf_0) (v := va_rf ((zP S 0 x0).map (zh y))) X hw_X0_pawnReaches_0 hM rfl zc_0 ca (by decide) fl_X0_pawnReaches_0_0 rfl dX0_pawnReaches_66 ?_
    clear ca
    obtain ⟨b1, hb9, hf⟩ := m_calE hf
    refine z_topr hb9 ?_
    clear hb9
    refine lv_iload_n hx hb dX0_pawnReaches_69 rfl (lv_at hl 1 rfl) ?_
    refine lv_iload_n hx hb dX0_pawnReaches_70 rfl (lv_at hl 3 rfl) ?_
    refine lv_iadd hx hb dX0_pawnReaches_71 ?_
    obtain ⟨v2, ev, hf⟩ := m_bndE hf
    refine m_top ev ?_
    clear ev
    obtain ⟨ca, hf⟩ := m_chkE hf
    replace ca := z_in hM (by decide) ca
    obtain ⟨cd, hf⟩ := m_chkE hf
    refine z_iald X hM ca cd dX0_pawnReaches_72 ?_
    clear ca cd
    obtain ⟨v3, ev, hf⟩ := m_bndE hf
    refine m_top ev ?_
    clear ev
    refine lv_if_ne (tgt := 89) hx hb dX0_pawnReaches_73 (by decide) (fun cc1 => ?_) (fun cc1 => ?_)
    · replace hf := m_ifF hf cc1
      exact w_X0_pawnReaches_89 X hret hf hM (lv_sub hl [] rfl)
    · replace hf := m_ifT hf cc1
      refine lv_aload_n hx hb dX0_pawnReaches_76 rfl (lv_at hl 0 rfl) ?_
      obtain ⟨ca, hf⟩ := m_chkE hf
      replace ca := z_in hM (by decide) ca
      refine z_get (k := 0) (j := 0) (C := RX0) (T := TX0) (N := 7) (fl := zf_0) (v := va_rf ((zP S 0 x0).map (zh y))) X hw_X0_pawnReaches_0 hM rfl zc_0 ca (by decide) fl_X0_pawnReaches_0_0 rfl dX0_pawnReaches_77 ?_
      clear ca
      obtain ⟨b4, hb9, hf⟩ := m_calE hf
      refine z_topr hb9 ?_
      clear hb9
      refine lv_iload_n hx hb dX0_pawnReaches_80 rfl (lv_at hl 2 rfl) ?_
      obtain ⟨ca, hf⟩ := m_chkE hf
      replace ca := z_in hM (by decide) ca
      obtain ⟨cd, hf⟩ := m_chkE hf
      refine z_iald X hM ca cd dX0_pawnReaches_81 ?_
      clear ca cd
      obtain ⟨v5, ev, hf⟩ := m_bndE hf
      refine m_top ev ?_
      clear ev
      refine lv_if_ne (tgt := 89) hx hb dX0_pawnReaches_82 (by decide) (fun cc1 => ?_) (fun cc1 => ?_)
      · replace hf := m_ifF hf cc1
        exact w_X0_pawnReaches_89 X hret hf hM (lv_sub hl [] rfl)
      · replace hf := m_ifT hf cc1
        refine lv_iconst (v := (1 : Int32)) hx hb dX0_pawnReaches_85 (by decide) ?_
        refine lv_goto (tgt := 90) hx hb dX0_pawnReaches_86 (by decide) ?_
        exact w_X0_pawnReaches_90 (t0 := (1 : Int32)) X hret hf hM (lv_sub hl [] rfl)
noncomputable def f_X0_pawnReaches_36 (t0 : Int32) (S : ZS) : Option (Int32 × ZS) :=
  m_chk (vp_nar .boolean t0 = t0) (some (t0, S))

set_option maxRecDepth 100000 in
set_option maxHeartbeats 4000000 in
theorem w_X0_pawnReaches_36 {p : Program} {l : Launch} {e : Env} {s : State} {m : MethodId} {args : Array Value} {below : List Frame} {meth : Method} {c : Code} {Q : State → Prop} {D : va_G} {y : Nat → ClassId} {A0 : Nat → Prop} {o : Int32 × ZS} (X : CallFix p m c cX0_pawnReaches 4 s args wsX0_pawnReaches RX0) (hret : zRi p l e ({ frames := 1, cells := 0, slots := 0, locals := 32 } : Room) s m args below meth c Q cX0_pawnReaches D y A0 .boolean o) {t0 : Int32} {S : ZS} {H : Heap} {locs : List Loc} {ls : Array Slot} (hf : f_X0_pawnReaches_36 t0 S = some o) (hM : zH D y A0 s H locs S) (hl : lv_has ls 4 []) : W p l e ({ frames := 1, cells := 0, slots := 0, locals := 32 } : Room) s m args below meth c H locs 0 0 Q (F0 m 36 ls [.int t0]) := by
  obtain ⟨hx, hb, hml, hown, hts⟩ := id X
  unfold f_X0_pawnReaches_36 at hf
  obtain ⟨cd, hf⟩ := m_chkE hf
  cases hf
  exact hret H locs _ ls hM (m_nb cd) dX0_pawnReaches_36
noncomputable def f_X0_pawnReaches_14 (x0 : Nat) (x1 : Int32) (x2 : Int32) (t0 : Int32) (S : ZS) : Option (Int32 × ZS) :=
  m_bnd (x1 + t0) (fun v1 =>
  m_if (x2 = v1) (
  m_chk (zK S x0 = 0) (
  m_cal (zP S 0 x0) (fun b8 =>
  m_chk (zK S b8 = 14) (
  m_chk (¬ (x2 < 0 ∨ zN S b8 ≤ (x2).toNatClampNeg)) (
  m_bnd (zA S b8 (x2).toNatClampNeg) (fun v9 =>
  m_if (v9 = 0) (
  f_X0_pawnReaches_36 (1 : Int32) S
  ) (
  f_X0_pawnReaches_36 (0 : Int32) S
  ))))))
  ) (
  m_bnd ((2 : Int32) * t0) (fun v2 =>
  m_bnd (x1 + v2) (fun v3 =>
  m_if (x2 = v3) (
  m_bnd (x1 >>> ((3 : Int32) &&& 31)) (fun v7 =>
  m_chk (zK S x0 = 0) (
  m_if ((zI S 3 x0) = 0) (
  f_X0_pawnReaches_62 x0 x1 x2 t0 (1 : Int32) v7 S
  ) (
  f_X0_pawnReaches_62 x0 x1 x2 t0 (6 : Int32) v7 S
  )))
  ) (
  m_chk (zK S x0 = 0) (
  m_cal (f_X0_attacks x0 x1 x2 S) (fun o4 =>
  m_if (o4.1 = 0) (
  f_X0_pawnReaches_121  o4.2
  ) (
  m_chk (zK o4.2 x0 = 0) (
  m_cal (zP o4.2 0 x0) (fun b5 =>
  m_chk (zK o4.2 b5 = 14) (
  m_chk (¬ (x2 < 0 ∨ zN o4.2 b5 ≤ (x2).toNatClampNeg)) (
  m_bnd (zA o4.2 b5 (x2).toNatClampNeg) (fun v6 =>
  m_if (v6 = 0) (
  m_chk (zK o4.2 x0 = 0) (
  m_if (x2 = (zI o4.2 5 x0)) (
  f_X0_pawnReaches_117  o4.2
  ) (
  f_X0_pawnReaches_121  o4.2
  ))
  ) (
  f_X0_pawnReaches_117  o4.2
  ))))))
  )))
  )))
  ))

set_option maxRecDepth 100000 in
set_option maxHeartbeats 4000000 in
theorem w_X0_pawnReaches_14 {p : Program} {l : Launch} {e : Env} {s : State} {m : MethodId} {args : Array Value} {below : List Frame} {meth : Method} {c : Code} {Q : State → Prop} {D : va_G} {y : Nat → ClassId} {A0 : Nat → Prop} {o : Int32 × ZS} (X : CallFix p m c cX0_pawnReaches 4 s args wsX0_pawnReaches RX0) (hret : zRi p l e ({ frames := 1, cells := 0, slots := 0, locals := 32 } : Room) s m args below meth c Q cX0_pawnReaches D y A0 .boolean o) {x0 : Nat} {x1 : Int32} {x2 : Int32} {t0 : Int32} {S : ZS} {H : Heap} {locs : List Loc} {ls : Array Slot} (hf : f_X0_pawnReaches_14 x0 x1 x2 t0 S = some o) (hM : zH D y A0 s H locs S) (hl : lv_has ls 4 [(0, .ref (zh y x0)), (1, .int x1), (2, .int x2)]) : W p l e ({ frames := 1, cells := 0, slots := 0, locals := 32 } : Room) s m args below meth c H locs 0 0 Q (F0 m 14 ls [.int t0]) := by
  obtain ⟨hx, hb, hml, hown, hts⟩ := id X
  unfold f_X0_pawnReaches_14 at hf
  refine lv_istore_n (lv' := [(3, .int t0), (0, .ref (zh y x0)), (1, .int x1), (2, .int x2)]) hx hb dX0_pawnReaches_14 rfl hl (by decide) rfl (fun ls hl => ?_)
  refine lv_iload_n hx hb dX0_pawnReaches_15 rfl (lv_at hl 3 rfl) ?_
  refine lv_iload_n hx hb dX0_pawnReaches_16 rfl (lv_at hl 2 rfl) ?_
  refine lv_iload_n hx hb dX0_pawnReaches_17 rfl (lv_at hl 0 rfl) ?_
  refine lv_iadd hx hb dX0_pawnReaches_18 ?_
  obtain ⟨v1, ev, hf⟩ := m_bndE hf
  refine m_top ev ?_
  clear ev
  refine lv_icmp_ne (tgt := 37) hx hb dX0_pawnReaches_19 (by decide) (fun cc1 => ?_) (fun cc1 => ?_)
  · replace hf := m_ifF hf cc1
    refine lv_iload_n hx hb dX0_pawnReaches_37 rfl (lv_at hl 3 rfl) ?_
    refine lv_iload_n hx hb dX0_pawnReaches_38 rfl (lv_at hl 2 rfl) ?_
    refine lv_iconst (v := (2 : Int32)) hx hb dX0_pawnReaches_39 (by decide) ?_
    refine lv_iload_n hx hb dX0_pawnReaches_40 rfl (lv_at hl 0 rfl) ?_
    refine lv_imul hx hb dX0_pawnReaches_41 ?_
    obtain ⟨v2, ev, hf⟩ := m_bndE hf
    refine m_top ev ?_
    clear ev
    refine lv_iadd hx hb dX0_pawnReaches_42 ?_
    obtain ⟨v3, ev, hf⟩ := m_bndE hf
    refine m_top ev ?_
    clear ev
    refine lv_icmp_ne (tgt := 91) hx hb dX0_pawnReaches_43 (by decide) (fun cc1 => ?_) (fun cc1 => ?_)
    · replace hf := m_ifF hf cc1
      refine lv_aload_n hx hb dX0_pawnReaches_91 rfl (lv_at hl 1 rfl) ?_
      refine lv_iload_n hx hb dX0_pawnReaches_92 rfl (lv_at hl 2 rfl) ?_
      refine lv_iload_n hx hb dX0_pawnReaches_93 rfl (lv_at hl 3 rfl) ?_
      obtain ⟨ca, hf⟩ := m_chkE hf
      replace ca := z_in hM (by decide) ca
      obtain ⟨o4, ho, hf⟩ := m_calE hf
      refine z_callVi (k := 0) (C := RX0) (T := TX0) (N := 7) (fl := zf_0) X hM rfl zc_0 ca (c_X0_attacks ho) gX0_pawnReaches_X0_attacks rfl ⟨rfl, rfl⟩ hd_X0_attacks ⟨Nat.le_of_ble_eq_true rfl, Nat.le_of_ble_eq_true rfl⟩ rfl hl.1 rfl (Nat.le_of_ble_eq_true rfl) dX0_pawnReaches_94 (fun H locs hM => ?_)
      clear ho
      refine lv_if_eq (tgt := 121) hx hb dX0_pawnReaches_97 (by decide) (fun cc1 => ?_) (fun cc1 => ?_)
      · replace hf := m_ifT hf cc1
        exact w_X0_pawnReaches_121 X hret hf hM (lv_sub hl [] rfl)
      · replace hf := m_ifF hf cc1
        refine lv_aload_n hx hb dX0_pawnReaches_100 rfl (lv_at hl 1 rfl) ?_
        obtain ⟨ca, hf⟩ := m_chkE hf
        replace ca := z_in hM (by decide) ca
        refine z_get (k := 0) (j := 0) (C := RX0) (T := TX0) (N := 7) (fl := zf_0) (v := va_rf ((zP o4.2 0 x0).map (zh y))) X hw_X0_pawnReaches_0 hM rfl zc_0 ca (by decide) fl_X0_pawnReaches_0_0 rfl dX0_pawnReaches_101 ?_
        clear ca
        obtain ⟨b5, hb9, hf⟩ := m_calE hf
        refine z_topr hb9 ?_
        clear hb9
        refine lv_iload_n hx hb dX0_pawnReaches_104 rfl (lv_at hl 3 rfl) ?_
        obtain ⟨ca, hf⟩ := m_chkE hf
        replace ca := z_in hM (by decide) ca
        obtain ⟨cd, hf⟩ := m_chkE hf
        refine z_iald X hM ca cd dX0_pawnReaches_105 ?_
        clear ca cd
        obtain ⟨v6, ev, hf⟩ := m_bndE hf
        refine m_top ev ?_
        clear ev
        refine lv_if_ne (tgt := 117) hx hb dX0_pawnReaches_106 (by decide) (fun cc1 => ?_) (fun cc1 => ?_)
        · replace hf := m_ifF hf cc1
          exact w_X0_pawnReaches_117 X hret hf hM (lv_sub hl [] rfl)
        · replace hf := m_ifT hf cc1
          refine lv_iload_n hx hb dX0_pawnReaches_109 rfl (lv_at hl 3 rfl) ?_
          refine lv_aload_n hx hb dX0_pawnReaches_110 rfl (lv_at hl 1 rfl) ?_
          obtain ⟨ca, hf⟩ := m_chkE hf
          replace ca := z_in hM (by decide) ca
          refine z_get (k := 0) (j := 5) (C := RX0) (T := TX0) (N := 7) (fl := zf_0) (v := .int (zI o4.2 5 x0)) X hw_X0_pawnReaches_0 hM rfl zc_0 ca (by decide) fl_X0_pawnReaches_0_5 rfl dX0_pawnReaches_111 ?_
          clear ca
          refine lv_icmp_ne (tgt := 121) hx hb dX0_pawnReaches_114 (by decide) (fun cc1 => ?_) (fun cc1 => ?_)
          · replace hf := m_ifF hf cc1
            exact w_X0_pawnReaches_121 X hret hf hM (lv_sub hl [] rfl)
          · replace hf := m_ifT hf cc1
            exact w_X0_pawnReaches_117 X hret hf hM (lv_sub hl [] rfl)
    · replace hf := m_ifT hf cc1
      refine lv_iload_n hx hb dX0_pawnReaches_46 rfl (lv_at hl 2 rfl) ?_
      refine lv_iconst (v := (3 : Int32)) hx hb dX0_pawnReaches_47 (by decide) ?_
      refine lv_ishr hx hb dX0_pawnReaches_48 ?_
      obtain ⟨v7, ev, hf⟩ := m_bndE hf
      refine m_top ev ?_
      clear ev
      refine lv_aload_n hx hb dX0_pawnReaches_49 rfl (lv_at hl 1 rfl) ?_
      obtain ⟨ca, hf⟩ := m_chkE hf
      replace ca := z_in hM (by decide) ca
      refine z_get (k := 0) (j := 3) (C := RX0) (T := TX0) (N := 7) (fl := zf_0) (v := .int (zI S 3 x0)) X hw_X0_pawnReaches_0 hM rfl zc_0 ca (by decide) fl_X0_pawnReaches_0_3 rfl dX0_pawnReaches_50 ?_
      clear ca
      refine lv_if_ne (tgt := 60) hx hb dX0_pawnReaches_53 (by decide) (fun cc1 => ?_) (fun cc1 => ?_)
      · replace hf := m_ifF hf cc1
        refine lv_bipush (v := (6 : Int32)) hx hb dX0_pawnReaches_60 (by decide) ?_
        exact w_X0_pawnReaches_62 (x0 := x0) (x1 := x1) (x2 := x2) (x3 := t0) (t0 := (6 : Int32)) (t1 := v7) X hret hf hM (lv_sub hl [1, 2, 3, 0] rfl)
      · replace hf := m_ifT hf cc1
        refine lv_iconst (v := (1 : Int32)) hx hb dX0_pawnReaches_56 (by decide) ?_
        refine lv_goto (tgt := 62) hx hb dX0_pawnReaches_57 (by decide) ?_
        exact w_X0_pawnReaches_62 (x0 := x0) (x1 := x1) (x2 := x2) (x3 := t0) (t0 := (1 : Int32)) (t1 := v7) X hret hf hM (lv_sub hl [1, 2, 3, 0] rfl)
  · replace hf := m_ifT hf cc1
    refine lv_aload_n hx hb dX0_pawnReaches_22 rfl (lv_at hl 1 rfl) ?_
    obtain ⟨ca, hf⟩ := m_chkE hf
    replace ca := z_in hM (by decide) ca
    refine z_get (k := 0) (j := 0) (C := RX0) (T := TX0) (N := 7) (fl := zf_0) (v := va_rf ((zP S 0 x0).map (zh y))) X hw_X0_pawnReaches_0 hM rfl zc_0 ca (by decide) fl_X0_pawnReaches_0_0 rfl dX0_pawnReaches_23 ?_
    clear ca
    obtain ⟨b8, hb9, hf⟩ := m_calE hf
    refine z_topr hb9 ?_
    clear hb9
    refine lv_iload_n hx hb dX0_pawnReaches_26 rfl (lv_at hl 3 rfl) ?_
    obtain ⟨ca, hf⟩ := m_chkE hf
    replace ca := z_in hM (by decide) ca
    obtain ⟨cd, hf⟩ := m_chkE hf
    refine z_iald X hM ca cd dX0_pawnReaches_27 ?_
    clear ca cd
    obtain ⟨v9, ev, hf⟩ := m_bndE hf
    refine m_top ev ?_
    clear ev
    refine lv_if_ne (tgt := 35) hx hb dX0_pawnReaches_28 (by decide) (fun cc1 => ?_) (fun cc1 => ?_)
    · replace hf := m_ifF hf cc1
      refine lv_iconst (v := (0 : Int32)) hx hb dX0_pawnReaches_35 (by decide) ?_
      exact w_X0_pawnReaches_36 (t0 := (0 : Int32)) X hret hf hM (lv_sub hl [] rfl)
    · replace hf := m_ifT hf cc1
      refine lv_iconst (v := (1 : Int32)) hx hb dX0_pawnReaches_31 (by decide) ?_
      refine lv_goto (tgt := 36) hx hb dX0_pawnReaches_32 (by decide) ?_
      exact w_X0_pawnReaches_36 (t0 := (1 : Int32)) X hret hf hM (lv_sub hl [] rfl)
noncomputable def f_X0_pawnReaches_0 (x0 : Nat) (x1 : Int32) (x2 : Int32) (S : ZS) : Option (Int32 × ZS) :=
  m_chk (zK S x0 = 0) (
  m_if ((zI S 3 x0) = 0) (
  f_X0_pawnReaches_14 x0 x1 x2 (8 : Int32) S
  ) (
  f_X0_pawnReaches_14 x0 x1 x2 (-8 : Int32) S
  ))

set_option maxRecDepth 100000 in
set_option maxHeartbeats 4000000 in
theorem w_X0_pawnReaches_0 {p : Program} {l : Launch} {e : Env} {s : State} {m : MethodId} {args : Array Value} {below : List Frame} {meth : Method} {c : Code} {Q : State → Prop} {D : va_G} {y : Nat → ClassId} {A0 : Nat → Prop} {o : Int32 × ZS} (X : CallFix p m c cX0_pawnReaches 4 s args wsX0_pawnReaches RX0) (hret : zRi p l e ({ frames := 1, cells := 0, slots := 0, locals := 32 } : Room) s m args below meth c Q cX0_pawnReaches D y A0 .boolean o) {x0 : Nat} {x1 : Int32} {x2 : Int32} {S : ZS} {H : Heap} {locs : List Loc} {ls : Array Slot} (hf : f_X0_pawnReaches_0 x0 x1 x2 S = some o) (hM : zH D y A0 s H locs S) (hl : lv_has ls 4 [(0, .ref (zh y x0)), (1, .int x1), (2, .int x2)]) : W p l e ({ frames := 1, cells := 0, slots := 0, locals := 32 } : Room) s m args below meth c H locs 0 0 Q (F0 m 0 ls []) := by
  obtain ⟨hx, hb, hml, hown, hts⟩ := id X
  unfold f_X0_pawnReaches_0 at hf
  refine lv_aload_n hx hb dX0_pawnReaches_0 rfl (lv_at hl 0 rfl) ?_
  obtain ⟨ca, hf⟩ := m_chkE hf
  replace ca := z_in hM (by decide) ca
  refine z_get (k := 0) (j := 3) (C := RX0) (T := TX0) (N := 7) (fl := zf_0) (v := .int (zI S 3 x0)) X hw_X0_pawnReaches_0 hM rfl zc_0 ca (by decide) fl_X0_pawnReaches_0_3 rfl dX0_pawnReaches_1 ?_
  clear ca
  refine lv_if_ne (tgt := 12) hx hb dX0_pawnReaches_4 (by decide) (fun cc1 => ?_) (fun cc1 => ?_)
  · replace hf := m_ifF hf cc1
    refine lv_bipush (v := (-8 : Int32)) hx hb dX0_pawnReaches_12 (by decide) ?_
    exact w_X0_pawnReaches_14 (x0 := x0) (x1 := x1) (x2 := x2) (t0 := (-8 : Int32)) X hret hf hM (lv_sub hl [0, 1, 2] rfl)
  · replace hf := m_ifT hf cc1
    refine lv_bipush (v := (8 : Int32)) hx hb dX0_pawnReaches_7 (by decide) ?_
    refine lv_goto (tgt := 14) hx hb dX0_pawnReaches_9 (by decide) ?_
    exact w_X0_pawnReaches_14 (x0 := x0) (x1 := x1) (x2 := x2) (t0 := (8 : Int32)) X hret hf hM (lv_sub hl [0, 1, 2] rfl)
noncomputable def f_X0_pawnReaches (x0 : Nat) (x1 : Int32) (x2 : Int32) (S : ZS) : Option (Int32 × ZS) := f_X0_pawnReaches_0 x0 x1 x2 S
theorem c_X0_pawnReaches {l : Launch} {D : va_G} {y : Nat → ClassId} {x0 : Nat} {x1 : Int32} {x2 : Int32} {S : ZS} {o : Int32 × ZS} (hf : f_X0_pawnReaches x0 x1 x2 S = some o) : zMi l yX0_pawnReaches wsX0_pawnReaches ({ frames := 1, cells := 0, slots := 0, locals := 32 } : Room) [.ref (zh y x0), .int x1, .int x2] D y S o :=
  z_entryI (own := RX0) (cc := cX0_pawnReaches) (maxL := 4) (by decide) rfl rfl (Nat.le_of_ble_eq_true rfl) (fun p e s m args below meth c A0 Q H locs ls X hret hM hl => w_X0_pawnReaches_0 X hret hf hM (lv_sub hl [0, 1, 2] rfl))
theorem hd_X0_castles : yX0_castles.cls = RX0 ∧ yX0_castles.cls ≠ "java/lang/invoke/MethodHandle" ∧ yX0_castles.cls ≠ "java/lang/invoke/VarHandle" ∧ (parseMethodDescriptor yX0_castles.desc).map (fun d => d.parameters.length) = some 2 := by decide +kernel
theorem fl_X0_castles_0_0 : Cond.fieldLink RX0 9 "MoveTexts$Board" "men" "[I" ∈ wsX0_castles := by decide +kernel
theorem hw_X0_castles_0 : ∀ w ∈ wsX00, w ∈ wsX0_castles := by decide +kernel
noncomputable def f_X0_castles_42 (t0 : Int32) (S : ZS) : Option (Int32 × ZS) :=
  m_chk (vp_nar .boolean t0 = t0) (some (t0, S))

set_option maxRecDepth 100000 in
set_option maxHeartbeats 4000000 in
theorem w_X0_castles_42 {p : Program} {l : Launch} {e : Env} {s : State} {m : MethodId} {args : Array Value} {below : List Frame} {meth : Method} {c : Code} {Q : State → Prop} {D : va_G} {y : Nat → ClassId} {A0 : Nat → Prop} {o : Int32 × ZS} (X : CallFix p m c cX0_castles 3 s args wsX0_castles RX0) (hret : zRi p l e ({ frames := 0, cells := 0, slots := 0, locals := 0 } : Room) s m args below meth c Q cX0_castles D y A0 .boolean o) {t0 : Int32} {S : ZS} {H : Heap} {locs : List Loc} {ls : Array Slot} (hf : f_X0_castles_42 t0 S = some o) (hM : zH D y A0 s H locs S) (hl : lv_has ls 3 []) : W p l e ({ frames := 0, cells := 0, slots := 0, locals := 0 } : Room) s m args below meth c H locs 0 0 Q (F0 m 42 ls [.int t0]) := by
  obtain ⟨hx, hb, hml, hown, hts⟩ := id X
  unfold f_X0_castles_42 at hf
  obtain ⟨cd, hf⟩ := m_chkE hf
  cases hf
  exact hret H locs _ ls hM (m_nb cd) dX0_castles_42
noncomputable def f_X0_castles_41 (S : ZS) : Option (Int32 × ZS) :=
  f_X0_castles_42 (0 : Int32) S

set_option maxRecDepth 100000 in
set_option maxHeartbeats 4000000 in
theorem w_X0_castles_41 {p : Program} {l : Launch} {e : Env} {s : State} {m : MethodId} {args : Array Value} {below : List Frame} {meth : Method} {c : Code} {Q : State → Prop} {D : va_G} {y : Nat → ClassId} {A0 : Nat → Prop} {o : Int32 × ZS} (X : CallFix p m c cX0_castles 3 s args wsX0_castles RX0) (hret : zRi p l e ({ frames := 0, cells := 0, slots := 0, locals := 0 } : Room) s m args below meth c Q cX0_castles D y A0 .boolean o) {S : ZS} {H : Heap} {locs : List Loc} {ls : Array Slot} (hf : f_X0_castles_41  S = some o) (hM : zH D y A0 s H locs S) (hl : lv_has ls 3 []) : W p l e ({ frames := 0, cells := 0, slots := 0, locals := 0 } : Room) s m args below meth c H locs 0 0 Q (F0 m 41 ls []) := by
  obtain ⟨hx, hb, hml, hown, hts⟩ := id X
  unfold f_X0_castles_41 at hf
  refine lv_iconst (v := (0 : Int32)) hx hb dX0_castles_41 (by decide) ?_
  exact w_X0_castles_42 (t0 := (0 : Int32)) X hret hf hM (lv_sub hl [] rfl)
noncomputable def f_X0_castles_37 (S : ZS) : Option (Int32 × ZS) :=
  f_X0_castles_42 (1 : Int32) S

set_option maxRecDepth 100000 in
set_option maxHeartbeats 4000000 in
theorem w_X0_castles_37 {p : Program} {l : Launch} {e : Env} {s : State} {m : MethodId} {args : Array Value} {below : List Frame} {meth : Method} {c : Code} {Q : State → Prop} {D : va_G} {y : Nat → ClassId} {A0 : Nat → Prop} {o : Int32 × ZS} (X : CallFix p m c cX0_castles 3 s args wsX0_castles RX0) (hret : zRi p l e ({ frames := 0, cells := 0, slots := 0, locals := 0 } : Room) s m args below meth c Q cX0_castles D y A0 .boolean o) {S : ZS} {H : Heap} {locs : List Loc} {ls : Array Slot} (hf : f_X0_castles_37  S = some o) (hM : zH D y A0 s H locs S) (hl : lv_has ls 3 []) : W p l e ({ frames := 0, cells := 0, slots := 0, locals := 0 } : Room) s m args below meth c H locs 0 0 Q (F0 m 37 ls []) := by
  obtain ⟨hx, hb, hml, hown, hts⟩ := id X
  unfold f_X0_castles_37 at hf
  refine lv_iconst (v := (1 : Int32)) hx hb dX0_castles_37 (by decide) ?_
  refine lv_goto (tgt := 42) hx hb dX0_castles_38 (by decide) ?_
  exact w_X0_castles_42 (t0 := (1 : Int32)) X hret hf hM (lv_sub hl [] rfl)
noncomputable def f_X0_castles_0 (x0 : Nat) (x1 : Int32) (x2 : Int32) (S : ZS) : Option (Int32 × ZS) :=
  m_chk (zK S x0 = 0) (
  m_cal (zP S 0 x0) (fun b1 =>
  m_chk (zK S b1 = 14) (
  m_chk (¬ (x1 < 0 ∨ zN S b1 ≤ (x1).toNatClampNeg)) (
  m_bnd (zA S b1 (x1).toNatClampNeg) (fun v2 =>
  m_bnd (v2 &&& (7 : Int32)) (fun v3 =>
  m_if (v3 = (6 : Int32)) (
  m_bnd (x1 >>> ((3 : Int32) &&& 31)) (fun v4 =>
  m_bnd (x2 >>> ((3 : Int32) &&& 31)) (fun v5 =>
  m_if (v4 = v5) (
  m_bnd (x1 + (2 : Int32)) (fun v6 =>
  m_if (x2 = v6) (
  f_X0_castles_37  S
  ) (
  m_bnd (x1 - (2 : Int32)) (fun v7 =>
  m_if (x2 = v7) (
  f_X0_castles_37  S
  ) (
  f_X0_castles_41  S
  ))
  ))
  ) (
  f_X0_castles_41  S
  )))
  ) (
  f_X0_castles_41  S
  )))))))

set_option maxRecDepth 100000 in
set_option maxHeartbeats 4000000 in
theorem w_X0_castles_0 {p : Program} {l : Launch} {e : Env} {s : State} {m : MethodId} {args : Array Value} {below : List Frame} {meth : Method} {c : Code} {Q : State → Prop} {D : va_G} {y : Nat → ClassId} {A0 : Nat → Prop} {o : Int32 × ZS} (X : CallFix p m c cX0_castles 3 s args wsX0_castles RX0) (hret : zRi p l e ({ frames := 0, cells := 0, slots := 0, locals := 0 } : Room) s m args below meth c Q cX0_castles D y A0 .boolean o) {x0 : Nat} {x1 : Int32} {x2 : Int32} {S : ZS} {H : Heap} {locs : List Loc} {ls : Array Slot} (hf : f_X0_castles_0 x0 x1 x2 S = some o) (hM : zH D y A0 s H locs S) (hl : lv_has ls 3 [(0, .ref (zh y x0)), (1, .int x1), (2, .int x2)]) : W p l e ({ frames := 0, cells := 0, slots := 0, locals := 0 } : Room) s m args below meth c H locs 0 0 Q (F0 m 0 ls []) := by
  obtain ⟨hx, hb, hml, hown, hts⟩ := id X
  unfold f_X0_castles_0 at hf
  refine lv_aload_n hx hb dX0_castles_0 rfl (lv_at hl 0 rfl) ?_
  obtain ⟨ca, hf⟩ := m_chkE hf
  replace ca := z_in hM (by decide) ca
  refine z_get (k := 0) (j := 0) (C := RX0) (T := TX0) (N := 7) (fl := zf_0) (v := va_rf ((zP S 0 x0).map (zh y))) X hw_X0_castles_0 hM rfl zc_0 ca (by decide) fl_X0_castles_0_0 rfl dX0_castles_1 ?_
  clear ca
  obtain ⟨b1, hb9, hf⟩ := m_calE hf
  refine z_topr hb9 ?_
  clear hb9
  refine lv_iload_n hx hb dX0_castles_4 rfl (lv_at hl 1 rfl) ?_
  obtain ⟨ca, hf⟩ := m_chkE hf
  replace ca := z_in hM (by decide) ca
  obtain ⟨cd, hf⟩ := m_chkE hf
  refine z_iald X hM ca cd dX0_castles_5 ?_
  clear ca cd
  obtain ⟨v2, ev, hf⟩ := m_bndE hf
  refine m_top ev ?_
  clear ev
  refine lv_bipush (v := (7 : Int32)) hx hb dX0_castles_6 (by decide) ?_
  refine lv_iand hx hb dX0_castles_8 ?_
  obtain ⟨v3, ev, hf⟩ := m_bndE hf
  refine m_top ev ?_
  clear ev
  refine lv_bipush (v := (6 : Int32)) hx hb dX0_castles_9 (by decide) ?_
  refine lv_icmp_ne (tgt := 41) hx hb dX0_castles_11 (by decide) (fun cc1 => ?_) (fun cc1 => ?_)
  · replace hf := m_ifF hf cc1
    exact w_X0_castles_41 X hret hf hM (lv_sub hl [] rfl)
  · replace hf := m_ifT hf cc1
    refine lv_iload_n hx hb dX0_castles_14 rfl (lv_at hl 1 rfl) ?_
    refine lv_iconst (v := (3 : Int32)) hx hb dX0_castles_15 (by decide) ?_
    refine lv_ishr hx hb dX0_castles_16 ?_
    obtain ⟨v4, ev, hf⟩ := m_bndE hf
    refine m_top ev ?_
    clear ev
    refine lv_iload_n hx hb dX0_castles_17 rfl (lv_at hl 2 rfl) ?_
    refine lv_iconst (v := (3 : Int32)) hx hb dX0_castles_18 (by decide) ?_
    refine lv_ishr hx hb dX0_castles_19 ?_
    obtain ⟨v5, ev, hf⟩ := m_bndE hf
    refine m_top ev ?_
    clear ev
    refine lv_icmp_ne (tgt := 41) hx hb dX0_castles_20 (by decide) (fun cc1 => ?_) (fun cc1 => ?_)
    · replace hf := m_ifF hf cc1
      exact w_X0_castles_41 X hret hf hM (lv_sub hl [] rfl)
    · replace hf := m_ifT hf cc1
      refine lv_iload_n hx hb dX0_castles_23 rfl (lv_at hl 2 rfl) ?_
      refine lv_iload_n hx hb dX0_castles_24 rfl (lv_at hl 1 rfl) ?_
      refine lv_iconst (v := (2 : Int32)) hx hb dX0_castles_25 (by decide) ?_
      refine lv_iadd hx hb dX0_castles_26 ?_
      obtain ⟨v6, ev, hf⟩ := m_bndE hf
      refine m_top ev ?_
      clear ev
      refine lv_icmp_eq (tgt := 37) hx hb dX0_castles_27 (by decide) (fun cc1 => ?_) (fun cc1 => ?_)
      · replace hf := m_ifT hf cc1
        exact w_X0_castles_37 X hret hf hM (lv_sub hl [] rfl)
      · replace hf := m_ifF hf cc1
        refine lv_iload_n hx hb dX0_castles_30 rfl (lv_at hl 2 rfl) ?_
        refine lv_iload_n hx hb dX0_castles_31 rfl (lv_at hl 1 rfl) ?_
        refine lv_iconst (v := (2 : Int32)) hx hb dX0_castles_32 (by decide) ?_
        refine lv_isub hx hb dX0_castles_33 ?_
        obtain ⟨v7, ev, hf⟩ := m_bndE hf
        refine m_top ev ?_
        clear ev
        refine lv_icmp_ne (tgt := 41) hx hb dX0_castles_34 (by decide) (fun cc1 => ?_) (fun cc1 => ?_)
        · replace hf := m_ifF hf cc1
          exact w_X0_castles_41 X hret hf hM (lv_sub hl [] rfl)
        · replace hf := m_ifT hf cc1
          exact w_X0_castles_37 X hret hf hM (lv_sub hl [] rfl)
noncomputable def f_X0_castles (x0 : Nat) (x1 : Int32) (x2 : Int32) (S : ZS) : Option (Int32 × ZS) := f_X0_castles_0 x0 x1 x2 S
theorem c_X0_castles {l : Launch} {D : va_G} {y : Nat → ClassId} {x0 : Nat} {x1 : Int32} {x2 : Int32} {S : ZS} {o : Int32 × ZS} (hf : f_X0_castles x0 x1 x2 S = some o) : zMi l yX0_castles wsX0_castles ({ frames := 0, cells := 0, slots := 0, locals := 0 } : Room) [.ref (zh y x0), .int x1, .int x2] D y S o :=
  z_entryI (own := RX0) (cc := cX0_castles) (maxL := 3) (by decide) rfl rfl (Nat.le_of_ble_eq_true rfl) (fun p e s m args below meth c A0 Q H locs ls X hret hM hl => w_X0_castles_0 X hret hf hM (lv_sub hl [0, 1, 2] rfl))
theorem hd_X0_castlingIsOpen : yX0_castlingIsOpen.cls = RX0 ∧ yX0_castlingIsOpen.cls ≠ "java/lang/invoke/MethodHandle" ∧ yX0_castlingIsOpen.cls ≠ "java/lang/invoke/VarHandle" ∧ (parseMethodDescriptor yX0_castlingIsOpen.desc).map (fun d => d.parameters.length) = some 2 := by decide +kernel
theorem fl_X0_castlingIsOpen_0_0 : Cond.fieldLink RX0 9 "MoveTexts$Board" "men" "[I" ∈ wsX0_castlingIsOpen := by decide +kernel
theorem fl_X0_castlingIsOpen_0_3 : Cond.fieldLink RX0 22 "MoveTexts$Board" "side" "I" ∈ wsX0_castlingIsOpen := by decide +kernel
theorem fl_X0_castlingIsOpen_0_4 : Cond.fieldLink RX0 25 "MoveTexts$Board" "rights" "I" ∈ wsX0_castlingIsOpen := by decide +kernel
theorem hw_X0_castlingIsOpen_0 : ∀ w ∈ wsX00, w ∈ wsX0_castlingIsOpen := by decide +kernel
noncomputable def f_X0_castlingIsOpen_50 (S : ZS) : Option (Int32 × ZS) :=
  m_chk (vp_nar .boolean (0 : Int32) = (0 : Int32)) (some ((0 : Int32), S))

set_option maxRecDepth 100000 in
set_option maxHeartbeats 4000000 in
theorem w_X0_castlingIsOpen_50 {p : Program} {l : Launch} {e : Env} {s : State} {m : MethodId} {args : Array Value} {below : List Frame} {meth : Method} {c : Code} {Q : State → Prop} {D : va_G} {y : Nat → ClassId} {A0 : Nat → Prop} {o : Int32 × ZS} (X : CallFix p m c cX0_castlingIsOpen 4 s args wsX0_castlingIsOpen RX0) (hret : zRi p l e ({ frames := 0, cells := 0, slots := 0, locals := 0 } : Room) s m args below meth c Q cX0_castlingIsOpen D y A0 .boolean o) {S : ZS} {H : Heap} {locs : List Loc} {ls : Array Slot} (hf : f_X0_castlingIsOpen_50  S = some o) (hM : zH D y A0 s H locs S) (hl : lv_has ls 4 []) : W p l e ({ frames := 0, cells := 0, slots := 0, locals := 0 } : Room) s m args below meth c H locs 0 0 Q (F0 m 50 ls []) := by
  obtain ⟨hx, hb, hml, hown, hts⟩ := id X
  unfold f_X0_castlingIsOpen_50 at hf
  refine lv_iconst (v := (0 : Int32)) hx hb dX0_castlingIsOpen_50 (by decide) ?_
  obtain ⟨cd, hf⟩ := m_chkE hf
  cases hf
  exact hret H locs _ ls hM (m_nb cd) dX0_castlingIsOpen_51
noncomputable def f_X0_castlingIsOpen_123 (t0 : Int32) (S : ZS) : Option (Int32 × ZS) :=
  m_chk (vp_nar .boolean t0 = t0) (some (t0, S))

set_option maxRecDepth 100000 in
set_option maxHeartbeats 4000000 in
theorem w_X0_castlingIsOpen_123 {p : Program} {l : Launch} {e : Env} {s : State} {m : MethodId} {args : Array Value} {below : List Frame} {meth : Method} {c : Code} {Q : State → Prop} {D : va_G} {y : Nat → ClassId} {A0 : Nat → Prop} {o : Int32 × ZS} (X : CallFix p m c cX0_castlingIsOpen 4 s args wsX0_castlingIsOpen RX0) (hret : zRi p l e ({ frames := 0, cells := 0, slots := 0, locals := 0 } : Room) s m args below meth c Q cX0_castlingIsOpen D y A0 .boolean o) {t0 : Int32} {S : ZS} {H : Heap} {locs : List Loc} {ls : Array Slot} (hf : f_X0_castlingIsOpen_123 t0 S = some o) (hM : zH D y A0 s H locs S) (hl : lv_has ls 4 []) : W p l e ({ frames := 0, cells := 0, slots := 0, locals := 0 } : Room) s m args below meth c H locs 0 0 Q (F0 m 123 ls [.int t0]) := by
  obtain ⟨hx, hb, hml, hown, hts⟩ := id X
  unfold f_X0_castlingIsOpen_123 at hf
  obtain ⟨cd, hf⟩ := m_chkE hf
  cases hf
  exact hret H locs _ ls hM (m_nb cd) dX0_castlingIsOpen_123
noncomputable def f_X0_castlingIsOpen_122 (S : ZS) : Option (Int32 × ZS) :=
  f_X0_castlingIsOpen_123 (0 : Int32) S

set_option maxRecDepth 100000 in
set_option maxHeartbeats 4000000 in
theorem w_X0_castlingIsOpen_122 {p : Program} {l : Launch} {e : Env} {s : State} {m : MethodId} {args : Array Value} {below : List Frame} {meth : Method} {c : Code} {Q : State → Prop} {D : va_G} {y : Nat → ClassId} {A0 : Nat → Prop} {o : Int32 × ZS} (X : CallFix p m c cX0_castlingIsOpen 4 s args wsX0_castlingIsOpen RX0) (hret : zRi p l e ({ frames := 0, cells := 0, slots := 0, locals := 0 } : Room) s m args below meth c Q cX0_castlingIsOpen D y A0 .boolean o) {S : ZS} {H : Heap} {locs : List Loc} {ls : Array Slot} (hf : f_X0_castlingIsOpen_122  S = some o) (hM : zH D y A0 s H locs S) (hl : lv_has ls 4 []) : W p l e ({ frames := 0, cells := 0, slots := 0, locals := 0 } : Room) s m args below meth c H locs 0 0 Q (F0 m 122 ls []) := by
  obtain ⟨hx, hb, hml, hown, hts⟩ := id X
  unfold f_X0_castlingIsOpen_122 at hf
  refine lv_iconst (v := (0 : Int32)) hx hb dX0_castlingIsOpen_122 (by decide) ?_
  exact w_X0_castlingIsOpen_123 (t0 := (0 : Int32)) X hret hf hM (lv_sub hl [] rfl)
noncomputable def f_X0_castlingIsOpen_84 (t0 : Int32) (S : ZS) : Option (Int32 × ZS) :=
  m_chk (vp_nar .boolean t0 = t0) (some (t0, S))

set_option maxRecDepth 100000 in
set_option maxHeartbeats 4000000 in
theorem w_X0_castlingIsOpen_84 {p : Program} {l : Launch} {e : Env} {s : State} {m : MethodId} {args : Array Value} {below : List Frame} {meth : Method} {c : Code} {Q : State → Prop} {D : va_G} {y : Nat → ClassId} {A0 : Nat → Prop} {o : Int32 × ZS} (X : CallFix p m c cX0_castlingIsOpen 4 s args wsX0_castlingIsOpen RX0) (hret : zRi p l e ({ frames := 0, cells := 0, slots := 0, locals := 0 } : Room) s m args below meth c Q cX0_castlingIsOpen D y A0 .boolean o) {t0 : Int32} {S : ZS} {H : Heap} {locs : List Loc} {ls : Array Slot} (hf : f_X0_castlingIsOpen_84 t0 S = some o) (hM : zH D y A0 s H locs S) (hl : lv_has ls 4 []) : W p l e ({ frames := 0, cells := 0, slots := 0, locals := 0 } : Room) s m args below meth c H locs 0 0 Q (F0 m 84 ls [.int t0]) := by
  obtain ⟨hx, hb, hml, hown, hts⟩ := id X
  unfold f_X0_castlingIsOpen_84 at hf
  obtain ⟨cd, hf⟩ := m_chkE hf
  cases hf
  exact hret H locs _ ls hM (m_nb cd) dX0_castlingIsOpen_84
noncomputable def f_X0_castlingIsOpen_83 (S : ZS) : Option (Int32 × ZS) :=
  f_X0_castlingIsOpen_84 (0 : Int32) S

set_option maxRecDepth 100000 in
set_option maxHeartbeats 4000000 in
theorem w_X0_castlingIsOpen_83 {p : Program} {l : Launch} {e : Env} {s : State} {m : MethodId} {args : Array Value} {below : List Frame} {meth : Method} {c : Code} {Q : State → Prop} {D : va_G} {y : Nat → ClassId} {A0 : Nat → Prop} {o : Int32 × ZS} (X : CallFix p m c cX0_castlingIsOpen 4 s args wsX0_castlingIsOpen RX0) (hret : zRi p l e ({ frames := 0, cells := 0, slots := 0, locals := 0 } : Room) s m args below meth c Q cX0_castlingIsOpen D y A0 .boolean o) {S : ZS} {H : Heap} {locs : List Loc} {ls : Array Slot} (hf : f_X0_castlingIsOpen_83  S = some o) (hM : zH D y A0 s H locs S) (hl : lv_has ls 4 []) : W p l e ({ frames := 0, cells := 0, slots := 0, locals := 0 } : Room) s m args below meth c H locs 0 0 Q (F0 m 83 ls []) := by
  obtain ⟨hx, hb, hml, hown, hts⟩ := id X
  unfold f_X0_castlingIsOpen_83 at hf
  refine lv_iconst (v := (0 : Int32)) hx hb dX0_castlingIsOpen_83 (by decide) ?_
  exact w_X0_castlingIsOpen_84 (t0 := (0 : Int32)) X hret hf hM (lv_sub hl [] rfl)
noncomputable def f_X0_castlingIsOpen_38 (x0 : Nat) (x1 : Int32) (x2 : Int32) (x3 : Int32) (t0 : Int32) (t1 : Int32) (S : ZS) : Option (Int32 × ZS) :=
  m_if (t1 = t0) (
  m_chk (zK S x0 = 0) (
  m_bnd ((zI S 4 x0) &&& x3) (fun v1 =>
  m_if (v1 = 0) (
  f_X0_castlingIsOpen_50  S
  ) (
  m_if (x2 ≤ x1) (
  m_chk (zK S x0 = 0) (
  m_cal (zP S 0 x0) (fun b2 =>
  m_bnd (x1 - (1 : Int32)) (fun v3 =>
  m_chk (zK S b2 = 14) (
  m_chk (¬ (v3 < 0 ∨ zN S b2 ≤ (v3).toNatClampNeg)) (
  m_bnd (zA S b2 (v3).toNatClampNeg) (fun v4 =>
  m_if (v4 = 0) (
  m_chk (zK S x0 = 0) (
  m_cal (zP S 0 x0) (fun b5 =>
  m_bnd (x1 - (2 : Int32)) (fun v6 =>
  m_chk (zK S b5 = 14) (
  m_chk (¬ (v6 < 0 ∨ zN S b5 ≤ (v6).toNatClampNeg)) (
  m_bnd (zA S b5 (v6).toNatClampNeg) (fun v7 =>
  m_if (v7 = 0) (
  m_chk (zK S x0 = 0) (
  m_cal (zP S 0 x0) (fun b8 =>
  m_bnd (x1 - (3 : Int32)) (fun v9 =>
  m_chk (zK S b8 = 14) (
  m_chk (¬ (v9 < 0 ∨ zN S b8 ≤ (v9).toNatClampNeg)) (
  m_bnd (zA S b8 (v9).toNatClampNeg) (fun v10 =>
  m_if (v10 = 0) (
  f_X0_castlingIsOpen_123 (1 : Int32) S
  ) (
  f_X0_castlingIsOpen_122  S
  )))))))
  ) (
  f_X0_castlingIsOpen_122  S
  )))))))
  ) (
  f_X0_castlingIsOpen_122  S
  )))))))
  ) (
  m_chk (zK S x0 = 0) (
  m_cal (zP S 0 x0) (fun b11 =>
  m_bnd (x1 + (1 : Int32)) (fun v12 =>
  m_chk (zK S b11 = 14) (
  m_chk (¬ (v12 < 0 ∨ zN S b11 ≤ (v12).toNatClampNeg)) (
  m_bnd (zA S b11 (v12).toNatClampNeg) (fun v13 =>
  m_if (v13 = 0) (
  m_chk (zK S x0 = 0) (
  m_cal (zP S 0 x0) (fun b14 =>
  m_bnd (x1 + (2 : Int32)) (fun v15 =>
  m_chk (zK S b14 = 14) (
  m_chk (¬ (v15 < 0 ∨ zN S b14 ≤ (v15).toNatClampNeg)) (
  m_bnd (zA S b14 (v15).toNatClampNeg) (fun v16 =>
  m_if (v16 = 0) (
  f_X0_castlingIsOpen_84 (1 : Int32) S
  ) (
  f_X0_castlingIsOpen_83  S
  )))))))
  ) (
  f_X0_castlingIsOpen_83  S
  )))))))
  )
  )))
  ) (
  f_X0_castlingIsOpen_50  S
  )

set_option maxRecDepth 100000 in
set_option maxHeartbeats 4000000 in
theorem w_X0_castlingIsOpen_38 {p : Program} {l : Launch} {e : Env} {s : State} {m : MethodId} {args : Array Value} {below : List Frame} {meth : Method} {c : Code} {Q : State → Prop} {D : va_G} {y : Nat → ClassId} {A0 : Nat → Prop} {o : Int32 × ZS} (X : CallFix p m c cX0_castlingIsOpen 4 s args wsX0_castlingIsOpen RX0) (hret : zRi p l e ({ frames := 0, cells := 0, slots := 0, locals := 0 } : Room) s m args below meth c Q cX0_castlingIsOpen D y A0 .boolean o) {x0 : Nat} {x1 : Int32} {x2 : Int32} {x3 : Int32} {t0 : Int32} {t1 : Int32} {S : ZS} {H : Heap} {locs : List Loc} {ls : Array Slot} (hf : f_X0_castlingIsOpen_38 x0 x1 x2 x3 t0 t1 S = some o) (hM : zH D y A0 s H locs S) (hl : lv_has ls 4 [(0, .ref (zh y x0)), (1, .int x1), (2, .int x2), (3, .int x3)]) : W p l e ({ frames := 0, cells := 0, slots := 0, locals := 0 } : Room) s m args below meth c H locs 0 0 Q (F0 m 38 ls [.int t0, .int t1]) := by
  obtain ⟨hx, hb, hml, hown, hts⟩ := id X
  unfold f_X0_castlingIsOpen_38 at hf
  refine lv_icmp_ne (tgt := 50) hx hb dX0_castlingIsOpen_38 (by decide) (fun cc1 => ?_) (fun cc1 => ?_)
  · replace hf := m_ifF hf cc1
    exact w_X0_castlingIsOpen_50 X hret hf hM (lv_sub hl [] rfl)
  · replace hf := m_ifT hf cc1
    refine lv_aload_n hx hb dX0_castlingIsOpen_41 rfl (lv_at hl 0 rfl) ?_
    obtain ⟨ca, hf⟩ := m_chkE hf
    replace ca := z_in hM (by decide) ca
    refine z_get (k := 0) (j := 4) (C := RX0) (T := TX0) (N := 7) (fl := zf_0) (v := .int (zI S 4 x0)) X hw_X0_castlingIsOpen_0 hM rfl zc_0 ca (by decide) fl_X0_castlingIsOpen_0_4 rfl dX0_castlingIsOpen_42 ?_
    clear ca
    refine lv_iload_n hx hb dX0_castlingIsOpen_45 rfl (lv_at hl 3 rfl) ?_
    refine lv_iand hx hb dX0_castlingIsOpen_46 ?_
    obtain ⟨v1, ev, hf⟩ := m_bndE hf
    refine m_top ev ?_
    clear ev
    refine lv_if_ne (tgt := 52) hx hb dX0_castlingIsOpen_47 (by decide) (fun cc1 => ?_) (fun cc1 => ?_)
    · replace hf := m_ifF hf cc1
      refine lv_iload_n hx hb dX0_castlingIsOpen_52 rfl (lv_at hl 2 rfl) ?_
      refine lv_iload_n hx hb dX0_castlingIsOpen_53 rfl (lv_at hl 1 rfl) ?_
      refine lv_icmp_le (tgt := 85) hx hb dX0_castlingIsOpen_54 (by decide) (fun cc1 => ?_) (fun cc1 => ?_)
      · replace hf := m_ifT hf cc1
        refine lv_aload_n hx hb dX0_castlingIsOpen_85 rfl (lv_at hl 0 rfl) ?_
        obtain ⟨ca, hf⟩ := m_chkE hf
        replace ca := z_in hM (by decide) ca
        refine z_get (k := 0) (j := 0) (C := RX0) (T := TX0) (N := 7) (fl := zf_0) (v := va_rf ((zP S 0 x0).map (zh y))) X hw_X0_castlingIsOpen_0 hM rfl zc_0 ca (by decide) fl_X0_castlingIsOpen_0_0 rfl dX0_castlingIsOpen_86 ?_
        clear ca
        obtain ⟨b2, hb9, hf⟩ := m_calE hf
        refine z_topr hb9 ?_
        clear hb9
        refine lv_iload_n hx hb dX0_castlingIsOpen_89 rfl (lv_at hl 1 rfl) ?_
        refine lv_iconst (v := (1 : Int32)) hx hb dX0_castlingIsOpen_90 (by decide) ?_
        refine lv_isub hx hb dX0_castlingIsOpen_91 ?_
        obtain ⟨v3, ev, hf⟩ := m_bndE hf
        refine m_top ev ?_
        clear ev
        obtain ⟨ca, hf⟩ := m_chkE hf
        replace ca := z_in hM (by decide) ca
        obtain ⟨cd, hf⟩ := m_chkE hf
        refine z_iald X hM ca cd dX0_castlingIsOpen_92 ?_
        clear ca cd
        obtain ⟨v4, ev, hf⟩ := m_bndE hf
        refine m_top ev ?_
        clear ev
        refine lv_if_ne (tgt := 122) hx hb dX0_castlingIsOpen_93 (by decide) (fun cc1 => ?_) (fun cc1 => ?_)
        · replace hf := m_ifF hf cc1
          exact w_X0_castlingIsOpen_122 X hret hf hM (lv_sub hl [] rfl)
        · replace hf := m_ifT hf cc1
          refine lv_aload_n hx hb dX0_castlingIsOpen_96 rfl (lv_at hl 0 rfl) ?_
          obtain ⟨ca, hf⟩ := m_chkE hf
          replace ca := z_in hM (by decide) ca
          refine z_get (k := 0) (j := 0) (C := RX0) (T := TX0) (N := 7) (fl := zf_0) (v := va_rf ((zP S 0 x0).map (zh y))) X hw_X0_castlingIsOpen_0 hM rfl zc_0 ca (by decide) fl_X0_castlingIsOpen_0_0 rfl dX0_castlingIsOpen_97 ?_
          clear ca
          obtain ⟨b5, hb9, hf⟩ := m_calE hf
          refine z_topr hb9 ?_
          clear hb9
          refine lv_iload_n hx hb dX0_castlingIsOpen_100 rfl (lv_at hl 1 rfl) ?_
          refine lv_iconst (v := (2 : Int32)) hx hb dX0_castlingIsOpen_101 (by decide) ?_
          refine lv_isub hx hb dX0_castlingIsOpen_102 ?_
          obtain ⟨v6, ev, hf⟩ := m_bndE hf
          refine m_top ev ?_
          clear ev
          obtain ⟨ca, hf⟩ := m_chkE hf
          replace ca := z_in hM (by decide) ca
          obtain ⟨cd, hf⟩ := m_chkE hf
          refine z_iald X hM ca cd dX0_castlingIsOpen_103 ?_
          clear ca cd
          obtain ⟨v7, ev, hf⟩ := m_bndE hf
          refine m_top ev ?_
          clear ev
          refine lv_if_ne (tgt := 122) hx hb dX0_castlingIsOpen_104 (by decide) (fun cc1 => ?_) (fun cc1 => ?_)
          · replace hf := m_ifF hf cc1
            exact w_X0_castlingIsOpen_122 X hret hf hM (lv_sub hl [] rfl)
          · replace hf := m_ifT hf cc1
            refine lv_aload_n hx hb dX0_castlingIsOpen_107 rfl (lv_at hl 0 rfl) ?_
            obtain ⟨ca, hf⟩ := m_chkE hf
            replace ca := z_in hM (by decide) ca
            refine z_get (k := 0) (j := 0) (C := RX0) (T := TX0) (N := 7) (fl := zf_0) (v := va_rf ((zP S 0 x0).map (zh y))) X hw_X0_castlingIsOpen_0 hM rfl zc_0 ca (by decide) fl_X0_castlingIsOpen_0_0 rfl dX0_castlingIsOpen_108 ?_
            clear ca
            obtain ⟨b8, hb9, hf⟩ := m_calE hf
            refine z_topr hb9 ?_
            clear hb9
            refine lv_iload_n hx hb dX0_castlingIsOpen_111 rfl (lv_at hl 1 rfl) ?_
            refine lv_iconst (v := (3 : Int32)) hx hb dX0_castlingIsOpen_112 (by decide) ?_
            refine lv_isub hx hb dX0_castlingIsOpen_113 ?_
            obtain ⟨v9, ev, hf⟩ := m_bndE hf
            refine m_top ev ?_
            clear ev
            obtain ⟨ca, hf⟩ := m_chkE hf
            replace ca := z_in hM (by decide) ca
            obtain ⟨cd, hf⟩ := m_chkE hf
            refine z_iald X hM ca cd dX0_castlingIsOpen_114 ?_
            clear ca cd
            obtain ⟨v10, ev, hf⟩ := m_bndE hf
            refine m_top ev ?_
            clear ev
            refine lv_if_ne (tgt := 122) hx hb dX0_castlingIsOpen_115 (by decide) (fun cc1 => ?_) (fun cc1 => ?_)
            · replace hf := m_ifF hf cc1
              exact w_X0_castlingIsOpen_122 X hret hf hM (lv_sub hl [] rfl)
            · replace hf := m_ifT hf cc1
              refine lv_iconst (v := (1 : Int32)) hx hb dX0_castlingIsOpen_118 (by decide) ?_
              refine lv_goto (tgt := 123) hx hb dX0_castlingIsOpen_119 (by decide) ?_
              exact w_X0_castlingIsOpen_123 (t0 := (1 : Int32)) X hret hf hM (lv_sub hl [] rfl)
      · replace hf := m_ifF hf cc1
        refine lv_aload_n hx hb dX0_castlingIsOpen_57 rfl (lv_at hl 0 rfl) ?_
        obtain ⟨ca, hf⟩ := m_chkE hf
        replace ca := z_in hM (by decide) ca
        refine z_get (k := 0) (j := 0) (C := RX0) (T := TX0) (N := 7) (fl := zf_0) (v := va_rf ((zP S 0 x0).map (zh y))) X hw_X0_castlingIsOpen_0 hM rfl zc_0 ca (by decide) fl_X0_castlingIsOpen_0_0 rfl dX0_castlingIsOpen_58 ?_
        clear ca
        obtain ⟨b11, hb9, hf⟩ := m_calE hf
        refine z_topr hb9 ?_
        clear hb9
        refine lv_iload_n hx hb dX0_castlingIsOpen_61 rfl (lv_at hl 1 rfl) ?_
        refine lv_iconst (v := (1 : Int32)) hx hb dX0_castlingIsOpen_62 (by decide) ?_
        refine lv_iadd hx hb dX0_castlingIsOpen_63 ?_
        obtain ⟨v12, ev, hf⟩ := m_bndE hf
        refine m_top ev ?_
        clear ev
        obtain ⟨ca, hf⟩ := m_chkE hf
        replace ca := z_in hM (by decide) ca
        obtain ⟨cd, hf⟩ := m_chkE hf
        refine z_iald X hM ca cd dX0_castlingIsOpen_64 ?_
        clear ca cd
        obtain ⟨v13, ev, hf⟩ := m_bndE hf
        refine m_top ev ?_
        clear ev
        refine lv_if_ne (tgt := 83) hx hb dX0_castlingIsOpen_65 (by decide) (fun cc1 => ?_) (fun cc1 => ?_)
        · replace hf := m_ifF hf cc1
          exact w_X0_castlingIsOpen_83 X hret hf hM (lv_sub hl [] rfl)
        · replace hf := m_ifT hf cc1
          refine lv_aload_n hx hb dX0_castlingIsOpen_68 rfl (lv_at hl 0 rfl) ?_
          obtain ⟨ca, hf⟩ := m_chkE hf
          replace ca := z_in hM (by decide) ca
          refine z_get (k := 0) (j := 0) (C := RX0) (T := TX0) (N := 7) (fl := zf_0) (v := va_rf ((zP S 0 x0).map (zh y))) X hw_X0_castlingIsOpen_0 hM rfl zc_0 ca (by decide) fl_X0_castlingIsOpen_0_0 rfl dX0_castlingIsOpen_69 ?_
          clear ca
          obtain ⟨b14, hb9, hf⟩ := m_calE hf
          refine z_topr hb9 ?_
          clear hb9
          refine lv_iload_n hx hb dX0_castlingIsOpen_72 rfl (lv_at hl 1 rfl) ?_
          refine lv_iconst (v := (2 : Int32)) hx hb dX0_castlingIsOpen_73 (by decide) ?_
          refine lv_iadd hx hb dX0_castlingIsOpen_74 ?_
          obtain ⟨v15, ev, hf⟩ := m_bndE hf
          refine m_top ev ?_
          clear ev
          obtain ⟨ca, hf⟩ := m_chkE hf
          replace ca := z_in hM (by decide) ca
          obtain ⟨cd, hf⟩ := m_chkE hf
          refine z_iald X hM ca cd dX0_castlingIsOpen_75 ?_
          clear ca cd
          obtain ⟨v16, ev, hf⟩ := m_bndE hf
          refine m_top ev ?_
          clear ev
          refine lv_if_ne (tgt := 83) hx hb dX0_castlingIsOpen_76 (by decide) (fun cc1 => ?_) (fun cc1 => ?_)
          · replace hf := m_ifF hf cc1
            exact w_X0_castlingIsOpen_83 X hret hf hM (lv_sub hl [] rfl)
          · replace hf := m_ifT hf cc1
            refine lv_iconst (v := (1 : Int32)) hx hb dX0_castlingIsOpen_79 (by decide) ?_
            refine lv_goto (tgt := 84) hx hb dX0_castlingIsOpen_80 (by decide) ?_
            exact w_X0_castlingIsOpen_84 (t0 := (1 : Int32)) X hret hf hM (lv_sub hl [] rfl)
    · replace hf := m_ifT hf cc1
      exact w_X0_castlingIsOpen_50 X hret hf hM (lv_sub hl [] rfl)
noncomputable def f_X0_castlingIsOpen_22 (x0 : Nat) (x1 : Int32) (x2 : Int32) (t0 : Int32) (t1 : Int32) (S : ZS) : Option (Int32 × ZS) :=
  m_bnd (t1 <<< (t0 &&& 31)) (fun v1 =>
  m_chk (zK S x0 = 0) (
  m_if ((zI S 3 x0) = 0) (
  f_X0_castlingIsOpen_38 x0 x1 x2 v1 (4 : Int32) x1 S
  ) (
  f_X0_castlingIsOpen_38 x0 x1 x2 v1 (60 : Int32) x1 S
  )))

set_option maxRecDepth 100000 in
set_option maxHeartbeats 4000000 in
theorem w_X0_castlingIsOpen_22 {p : Program} {l : Launch} {e : Env} {s : State} {m : MethodId} {args : Array Value} {below : List Frame} {meth : Method} {c : Code} {Q : State → Prop} {D : va_G} {y : Nat → ClassId} {A0 : Nat → Prop} {o : Int32 × ZS} (X : CallFix p m c cX0_castlingIsOpen 4 s args wsX0_castlingIsOpen RX0) (hret : zRi p l e ({ frames := 0, cells := 0, slots := 0, locals := 0 } : Room) s m args below meth c Q cX0_castlingIsOpen D y A0 .boolean o) {x0 : Nat} {x1 : Int32} {x2 : Int32} {t0 : Int32} {t1 : Int32} {S : ZS} {H : Heap} {locs : List Loc} {ls : Array Slot} (hf : f_X0_castlingIsOpen_22 x0 x1 x2 t0 t1 S = some o) (hM : zH D y A0 s H locs S) (hl : lv_has ls 4 [(0, .ref (zh y x0)), (1, .int x1), (2, .int x2)]) : W p l e ({ frames := 0, cells := 0, slots := 0, locals := 0 } : Room) s m args below meth c H locs 0 0 Q (F0 m 22 ls [.int t0, .int t1]) := by
  obtain ⟨hx, hb, hml, hown, hts⟩ := id X
  unfold f_X0_castlingIsOpen_22 at hf
  refine lv_ishl hx hb dX0_castlingIsOpen_22 ?_
  obtain ⟨v1, ev, hf⟩ := m_bndE hf
  refine m_top ev ?_
  clear ev
  refine lv_istore_n (lv' := [(3, .int v1), (0, .ref (zh y x0)), (1, .int x1), (2, .int x2)]) hx hb dX0_castlingIsOpen_23 rfl hl (by decide) rfl (fun ls hl => ?_)
  refine lv_iload_n hx hb dX0_castlingIsOpen_24 rfl (lv_at hl 2 rfl) ?_
  refine lv_aload_n hx hb dX0_castlingIsOpen_25 rfl (lv_at hl 1 rfl) ?_
  obtain ⟨ca, hf⟩ := m_chkE hf
  replace ca := z_in hM (by decide) ca
  refine z_get (k := 0) (j := 3) (C := RX0) (T := TX0) (N := 7) (fl := zf_0) (v := .int (zI S 3 x0)) X hw_X0_castlingIsOpen_0 hM rfl zc_0 ca (by decide) fl_X0_castlingIsOpen_0_3 rfl dX0_castlingIsOpen_26 ?_
  clear ca
  refine lv_if_ne (tgt := 36) hx hb dX0_castlingIsOpen_29 (by decide) (fun cc1 => ?_) (fun cc1 => ?_)
  · replace hf := m_ifF hf cc1
    refine lv_bipush (v := (60 : Int32)) hx hb dX0_castlingIsOpen_36 (by decide) ?_
    exact w_X0_castlingIsOpen_38 (x0 := x0) (x1 := x1) (x2 := x2) (x3 := v1) (t0 := (60 : Int32)) (t1 := x1) X hret hf hM (lv_sub hl [1, 2, 3, 0] rfl)
  · replace hf := m_ifT hf cc1
    refine lv_iconst (v := (4 : Int32)) hx hb dX0_castlingIsOpen_32 (by decide) ?_
    refine lv_goto (tgt := 38) hx hb dX0_castlingIsOpen_33 (by decide) ?_
    exact w_X0_castlingIsOpen_38 (x0 := x0) (x1 := x1) (x2 := x2) (x3 := v1) (t0 := (4 : Int32)) (t1 := x1) X hret hf hM (lv_sub hl [1, 2, 3, 0] rfl)
noncomputable def f_X0_castlingIsOpen_10 (x0 : Nat) (x1 : Int32) (x2 : Int32) (t0 : Int32) (S : ZS) : Option (Int32 × ZS) :=
  m_chk (zK S x0 = 0) (
  m_if ((zI S 3 x0) = 0) (
  f_X0_castlingIsOpen_22 x0 x1 x2 (0 : Int32) t0 S
  ) (
  f_X0_castlingIsOpen_22 x0 x1 x2 (2 : Int32) t0 S
  ))

set_option maxRecDepth 100000 in
set_option maxHeartbeats 4000000 in
theorem w_X0_castlingIsOpen_10 {p : Program} {l : Launch} {e : Env} {s : State} {m : MethodId} {args : Array Value} {below : List Frame} {meth : Method} {c : Code} {Q : State → Prop} {D : va_G} {y : Nat → ClassId} {A0 : Nat → Prop} {o : Int32 × ZS} (X : CallFix p m c cX0_castlingIsOpen 4 s args wsX0_castlingIsOpen RX0) (hret : zRi p l e ({ frames := 0, cells := 0, slots := 0, locals := 0 } : Room) s m args below meth c Q cX0_castlingIsOpen D y A0 .boolean o) {x0 : Nat} {x1 : Int32} {x2 : Int32} {t0 : Int32} {S : ZS} {H : Heap} {locs : List Loc} {ls : Array Slot} (hf : f_X0_castlingIsOpen_10 x0 x1 x2 t0 S = some o) (hM : zH D y A0 s H locs S) (hl : lv_has ls 4 [(0, .ref (zh y x0)), (1, .int x1), (2, .int x2)]) : W p l e ({ frames := 0, cells := 0, slots := 0, locals := 0 } : Room) s m args below meth c H locs 0 0 Q (F0 m 10 ls [.int t0]) := by
  obtain ⟨hx, hb, hml, hown, hts⟩ := id X
  unfold f_X0_castlingIsOpen_10 at hf
  refine lv_aload_n hx hb dX0_castlingIsOpen_10 rfl (lv_at hl 0 rfl) ?_
  obtain ⟨ca, hf⟩ := m_chkE hf
  replace ca := z_in hM (by decide) ca
  refine z_get (k := 0) (j := 3) (C := RX0) (T := TX0) (N := 7) (fl := zf_0) (v := .int (zI S 3 x0)) X hw_X0_castlingIsOpen_0 hM rfl zc_0 ca (by decide) fl_X0_castlingIsOpen_0_3 rfl dX0_castlingIsOpen_11 ?_
  clear ca
  refine lv_if_ne (tgt := 21) hx hb dX0_castlingIsOpen_14 (by decide) (fun cc1 => ?_) (fun cc1 => ?_)
  · replace hf := m_ifF hf cc1
    refine lv_iconst (v := (2 : Int32)) hx hb dX0_castlingIsOpen_21 (by decide) ?_
    exact w_X0_castlingIsOpen_22 (x0 := x0) (x1 := x1) (x2 := x2) (t0 := (2 : Int32)) (t1 := t0) X hret hf hM (lv_sub hl [0, 1, 2] rfl)
  · replace hf := m_ifT hf cc1
    refine lv_iconst (v := (0 : Int32)) hx hb dX0_castlingIsOpen_17 (by decide) ?_
    refine lv_goto (tgt := 22) hx hb dX0_castlingIsOpen_18 (by decide) ?_
    exact w_X0_castlingIsOpen_22 (x0 := x0) (x1 := x1) (x2 := x2) (t0 := (0 : Int32)) (t1 := t0) X hret hf hM (lv_sub hl [0, 1, 2] rfl)
noncomputable def f_X0_castlingIsOpen_0 (x0 : Nat) (x1 : Int32) (x2 : Int32) (S : ZS) : Option (Int32 × ZS) :=
  m_if (x2 ≤ x1) (
  f_X0_castlingIsOpen_10 x0 x1 x2 (2 : Int32) S
  ) (
  f_X0_castlingIsOpen_10 x0 x1 x2 (1 : Int32) S
  )

set_option maxRecDepth 100000 in
set_option maxHeartbeats 4000000 in
theorem w_X0_castlingIsOpen_0 {p : Program} {l : Launch} {e : Env} {s : State} {m : MethodId} {args : Array Value} {below : List Frame} {meth : Method} {c : Code} {Q : State → Prop} {D : va_G} {y : Nat → ClassId} {A0 : Nat → Prop} {o : Int32 × ZS} (X : CallFix p m c cX0_castlingIsOpen 4 s args wsX0_castlingIsOpen RX0) (hret : zRi p l e ({ frames := 0, cells := 0, slots := 0, locals := 0 } : Room) s m args below meth c Q cX0_castlingIsOpen D y A0 .boolean o) {x0 : Nat} {x1 : Int32} {x2 : Int32} {S : ZS} {H : Heap} {locs : List Loc} {ls : Array Slot} (hf : f_X0_castlingIsOpen_0 x0 x1 x2 S = some o) (hM : zH D y A0 s H locs S) (hl : lv_has ls 4 [(0, .ref (zh y x0)), (1, .int x1), (2, .int x2)]) : W p l e ({ frames := 0, cells := 0, slots := 0, locals := 0 } : Room) s m args below meth c H locs 0 0 Q (F0 m 0 ls []) := by
  obtain ⟨hx, hb, hml, hown, hts⟩ := id X
  unfold f_X0_castlingIsOpen_0 at hf
  refine lv_iload_n hx hb dX0_castlingIsOpen_0 rfl (lv_at hl 2 rfl) ?_
  refine lv_iload_n hx hb dX0_castlingIsOpen_1 rfl (lv_at hl 1 rfl) ?_
  refine lv_icmp_le (tgt := 9) hx hb dX0_castlingIsOpen_2 (by decide) (fun cc1 => ?_) (fun cc1 => ?_)
  · replace hf := m_ifT hf cc1
    refine lv_iconst (v := (2 : Int32)) hx hb dX0_castlingIsOpen_9 (by decide) ?_
    exact w_X0_castlingIsOpen_10 (x0 := x0) (x1 := x1) (x2 := x2) (t0 := (2 : Int32)) X hret hf hM (lv_sub hl [0, 1, 2] rfl)
  · replace hf := m_ifF hf cc1
    refine lv_iconst (v := (1 : Int32)) hx hb dX0_castlingIsOpen_5 (by decide) ?_
    refine lv_goto (tgt := 10) hx hb dX0_castlingIsOpen_6 (by decide) ?_
    exact w_X0_castlingIsOpen_10 (x0 := x0) (x1 := x1) (x2 := x2) (t0 := (1 : Int32)) X hret hf hM (lv_sub hl [0, 1, 2] rfl)
noncomputable def f_X0_castlingIsOpen (x0 : Nat) (x1 : Int32) (x2 : Int32) (S : ZS) : Option (Int32 × ZS) := f_X0_castlingIsOpen_0 x0 x1 x2 S
theorem c_X0_castlingIsOpen {l : Launch} {D : va_G} {y : Nat → ClassId} {x0 : Nat} {x1 : Int32} {x2 : Int32} {S : ZS} {o : Int32 × ZS} (hf : f_X0_castlingIsOpen x0 x1 x2 S = some o) : zMi l yX0_castlingIsOpen wsX0_castlingIsOpen ({ frames := 0, cells := 0, slots := 0, locals := 0 } : Room) [.ref (zh y x0), .int x1, .int x2] D y S o :=
  z_entryI (own := RX0) (cc := cX0_castlingIsOpen) (maxL := 4) (by decide) rfl rfl (Nat.le_of_ble_eq_true rfl) (fun p e s m args below meth c A0 Q H locs ls X hret hM hl => w_X0_castlingIsOpen_0 X hret hf hM (lv_sub hl [0, 1, 2] rfl))
end
section
theorem hd_X0_reaches : yX0_reaches.cls = RX0 ∧ yX0_reaches.cls ≠ "java/lang/invoke/MethodHandle" ∧ yX0_reaches.cls ≠ "java/lang/invoke/VarHandle" ∧ (parseMethodDescriptor yX0_reaches.desc).map (fun d => d.parameters.length) = some 2 := by decide +kernel
theorem fl_X0_reaches_0_0 : Cond.fieldLink RX0 9 "MoveTexts$Board" "men" "[I" ∈ wsX0_reaches := by decide +kernel
theorem fl_X0_reaches_0_3 : Cond.fieldLink RX0 22 "MoveTexts$Board" "side" "I" ∈ wsX0_reaches := by decide +kernel
theorem hw_X0_reaches_0 : ∀ w ∈ wsX00, w ∈ wsX0_reaches := by decide +kernel
noncomputable def f_X0_reaches_45 (S : ZS) : Option (Int32 × ZS) :=
  m_chk (vp_nar .boolean (0 : Int32) = (0 : Int32)) (some ((0 : Int32), S))

set_option maxRecDepth 100000 in
set_option maxHeartbeats 4000000 in
theorem w_X0_reaches_45 {p : Program} {l : Launch} {e : Env} {s : State} {m : MethodId} {args : Array Value} {below : List Frame} {meth : Method} {c : Code} {Q : State → Prop} {D : va_G} {y : Nat → ClassId} {A0 : Nat → Prop} {o : Int32 × ZS} (X : CallFix p m c cX0_reaches 4 s args wsX0_reaches RX0) (hret : zRi p l e ({ frames := 2, cells := 0, slots := 0, locals := 55 } : Room) s m args below meth c Q cX0_reaches D y A0 .boolean o) {S : ZS} {H : Heap} {locs : List Loc} {ls : Array Slot} (hf : f_X0_reaches_45  S = some o) (hM : zH D y A0 s H locs S) (hl : lv_has ls 4 []) : W p l e ({ frames := 2, cells := 0, slots := 0, locals := 55 } : Room) s m args below meth c H locs 0 0 Q (F0 m 45 ls []) := by
  obtain ⟨hx, hb, hml, hown, hts⟩ := id X
  unfold f_X0_reaches_45 at hf
  refine lv_iconst (v := (0 : Int32)) hx hb dX0_reaches_45 (by decide) ?_
  obtain ⟨cd, hf⟩ := m_chkE hf
  cases hf
  exact hret H locs _ ls hM (m_nb cd) dX0_reaches_46
noncomputable def f_X0_reaches_95 (t0 : Int32) (S : ZS) : Option (Int32 × ZS) :=
  m_chk (vp_nar .boolean t0 = t0) (some (t0, S))

set_option maxRecDepth 100000 in
set_option maxHeartbeats 4000000 in
theorem w_X0_reaches_95 {p : Program} {l : Launch} {e : Env} {s : State} {m : MethodId} {args : Array Value} {below : List Frame} {meth : Method} {c : Code} {Q : State → Prop} {D : va_G} {y : Nat → ClassId} {A0 : Nat → Prop} {o : Int32 × ZS} (X : CallFix p m c cX0_reaches 4 s args wsX0_reaches RX0) (hret : zRi p l e ({ frames := 2, cells := 0, slots := 0, locals := 55 } : Room) s m args below meth c Q cX0_reaches D y A0 .boolean o) {t0 : Int32} {S : ZS} {H : Heap} {locs : List Loc} {ls : Array Slot} (hf : f_X0_reaches_95 t0 S = some o) (hM : zH D y A0 s H locs S) (hl : lv_has ls 4 []) : W p l e ({ frames := 2, cells := 0, slots := 0, locals := 55 } : Room) s m args below meth c H locs 0 0 Q (F0 m 95 ls [.int t0]) := by
  obtain ⟨hx, hb, hml, hown, hts⟩ := id X
  unfold f_X0_reaches_95 at hf
  obtain ⟨cd, hf⟩ := m_chkE hf
  cases hf
  exact hret H locs _ ls hM (m_nb cd) dX0_reaches_95
noncomputable def f_X0_reaches_90 (S : ZS) : Option (Int32 × ZS) :=
  f_X0_reaches_95 (1 : Int32) S

set_option maxRecDepth 100000 in
set_option maxHeartbeats 4000000 in
theorem w_X0_reaches_90 {p : Program} {l : Launch} {e : Env} {s : State} {m : MethodId} {args : Array Value} {below : List Frame} {meth : Method} {c : Code} {Q : State → Prop} {D : va_G} {y : Nat → ClassId} {A0 : Nat → Prop} {o : Int32 × ZS} (X : CallFix p m c cX0_reaches 4 s args wsX0_reaches RX0) (hret : zRi p l e ({ frames := 2, cells := 0, slots := 0, locals := 55 } : Room) s m args below meth c Q cX0_reaches D y A0 .boolean o) {S : ZS} {H : Heap} {locs : List Loc} {ls : Array Slot} (hf : f_X0_reaches_90  S = some o) (hM : zH D y A0 s H locs S) (hl : lv_has ls 4 []) : W p l e ({ frames := 2, cells := 0, slots := 0, locals := 55 } : Room) s m args below meth c H locs 0 0 Q (F0 m 90 ls []) := by
  obtain ⟨hx, hb, hml, hown, hts⟩ := id X
  unfold f_X0_reaches_90 at hf
  refine lv_iconst (v := (1 : Int32)) hx hb dX0_reaches_90 (by decide) ?_
  refine lv_goto (tgt := 95) hx hb dX0_reaches_91 (by decide) ?_
  exact w_X0_reaches_95 (t0 := (1 : Int32)) X hret hf hM (lv_sub hl [] rfl)
noncomputable def f_X0_reaches_94 (S : ZS) : Option (Int32 × ZS) :=
  f_X0_reaches_95 (0 : Int32) S

set_option maxRecDepth 100000 in
set_option maxHeartbeats 4000000 in
theorem w_X0_reaches_94 {p : Program} {l : Launch} {e : Env} {s : State} {m : MethodId} {args : Array Value} {below : List Frame} {meth : Method} {c : Code} {Q : State → Prop} {D : va_G} {y : Nat → ClassId} {A0 : Nat → Prop} {o : Int32 × ZS} (X : CallFix p m c cX0_reaches 4 s args wsX0_reaches RX0) (hret : zRi p l e ({ frames := 2, cells := 0, slots := 0, locals := 55 } : Room) s m args below meth c Q cX0_reaches D y A0 .boolean o) {S : ZS} {H : Heap} {locs : List Loc} {ls : Array Slot} (hf : f_X0_reaches_94  S = some o) (hM : zH D y A0 s H locs S) (hl : lv_has ls 4 []) : W p l e ({ frames := 2, cells := 0, slots := 0, locals := 55 } : Room) s m args below meth c H locs 0 0 Q (F0 m 94 ls []) := by
  obtain ⟨hx, hb, hml, hown, hts⟩ := id X
  unfold f_X0_reaches_94 at hf
  refine lv_iconst (v := (0 : Int32)) hx hb dX0_reaches_94 (by decide) ?_
  exact w_X0_reaches_95 (t0 := (0 : Int32)) X hret hf hM (lv_sub hl [] rfl)
noncomputable def f_X0_reaches_47 (x0 : Nat) (x1 : Int32) (x2 : Int32) (S : ZS) : Option (Int32 × ZS) :=
  m_chk (zK S x0 = 0) (
  m_cal (f_X0_kindAt x0 x1 S) (fun o1 =>
  m_if (o1.1 = (1 : Int32)) (
  m_chk (zK o1.2 x0 = 0) (
  m_cal (f_X0_pawnReaches x0 x1 x2 o1.2) (fun o5 =>
  m_chk (vp_nar .boolean o5.1 = o5.1) (some (o5.1, o5.2))))
  ) (
  m_chk (zK o1.2 x0 = 0) (
  m_cal (f_X0_attacks x0 x1 x2 o1.2) (fun o2 =>
  m_if (o2.1 = 0) (
  m_chk (zK o2.2 x0 = 0) (
  m_cal (f_X0_castles x0 x1 x2 o2.2) (fun o3 =>
  m_if (o3.1 = 0) (
  f_X0_reaches_94  o3.2
  ) (
  m_chk (zK o3.2 x0 = 0) (
  m_cal (f_X0_castlingIsOpen x0 x1 x2 o3.2) (fun o4 =>
  m_if (o4.1 = 0) (
  f_X0_reaches_94  o4.2
  ) (
  f_X0_reaches_90  o4.2
  )))
  )))
  ) (
  f_X0_reaches_90  o2.2
  )))
  )))

set_option maxRecDepth 100000 in
set_option maxHeartbeats 4000000 in
theorem w_X0_reaches_47 {p : Program} {l : Launch} {e : Env} {s : State} {m : MethodId} {args : Array Value} {below : List Frame} {meth : Method} {c : Code} {Q : State → Prop} {D : va_G} {y : Nat → ClassId} {A0 : Nat → Prop} {o : Int32 × ZS} (X : CallFix p m c cX0_reaches 4 s args wsX0_reaches RX0) (hret : zRi p l e ({ frames := 2, cells := 0, slots := 0, locals := 55 } : Room) s m args below meth c Q cX0_reaches D y A0 .boolean o) {x0 : Nat} {x1 : Int32} {x2 : Int32} {S : ZS} {H : Heap} {locs : List Loc} {ls : Array Slot} (hf : f_X0_reaches_47 x0 x1 x2 S = some o) (hM : zH D y A0 s H locs S) (hl : lv_has ls 4 [(0, .ref (zh y x0)), (1, .int x1), (2, .int x2)]) : W p l e ({ frames := 2, cells := 0, slots := 0, locals := 55 } : Room) s m args below meth c H locs 0 0 Q (F0 m 47 ls []) := by
  obtain ⟨hx, hb, hml, hown, hts⟩ := id X
  unfold f_X0_reaches_47 at hf
  refine lv_aload_n hx hb dX0_reaches_47 rfl (lv_at hl 0 rfl) ?_
  refine lv_iload_n hx hb dX0_reaches_48 rfl (lv_at hl 1 rfl) ?_
  obtain ⟨ca, hf⟩ := m_chkE hf
  replace ca := z_in hM (by decide) ca
  obtain ⟨o1, ho, hf⟩ := m_calE hf
  refine z_callVi (k := 0) (C := RX0) (T := TX0) (N := 7) (fl := zf_0) X hM rfl zc_0 ca (c_X0_kindAt ho) gX0_reaches_X0_kindAt rfl ⟨rfl, rfl⟩ hd_X0_kindAt ⟨Nat.le_of_ble_eq_true rfl, Nat.le_of_ble_eq_true rfl⟩ rfl hl.1 rfl (Nat.le_of_ble_eq_true rfl) dX0_reaches_49 (fun H locs hM => ?_)
  clear ho
  refine lv_iconst (v := (1 : Int32)) hx hb dX0_reaches_52 (by decide) ?_
  refine lv_icmp_ne (tgt := 63) hx hb dX0_reaches_53 (by decide) (fun cc1 => ?_) (fun cc1 => ?_)
  · replace hf := m_ifF hf cc1
    refine lv_aload_n hx hb dX0_reaches_63 rfl (lv_at hl 0 rfl) ?_
    refine lv_iload_n hx hb dX0_reaches_64 rfl (lv_at hl 1 rfl) ?_
    refine lv_iload_n hx hb dX0_reaches_65 rfl (lv_at hl 2 rfl) ?_
    obtain ⟨ca, hf⟩ := m_chkE hf
    replace ca := z_in hM (by decide) ca
    obtain ⟨o2, ho, hf⟩ := m_calE hf
    refine z_callVi (k := 0) (C := RX0) (T := TX0) (N := 7) (fl := zf_0) X hM rfl zc_0 ca (c_X0_attacks ho) gX0_reaches_X0_attacks rfl ⟨rfl, rfl⟩ hd_X0_attacks ⟨Nat.le_of_ble_eq_true rfl, Nat.le_of_ble_eq_true rfl⟩ rfl hl.1 rfl (Nat.le_of_ble_eq_true rfl) dX0_reaches_66 (fun H locs hM => ?_)
    clear ho
    refine lv_if_ne (tgt := 90) hx hb dX0_reaches_69 (by decide) (fun cc1 => ?_) (fun cc1 => ?_)
    · replace hf := m_ifF hf cc1
      exact w_X0_reaches_90 X hret hf hM (lv_sub hl [] rfl)
    · replace hf := m_ifT hf cc1
      refine lv_aload_n hx hb dX0_reaches_72 rfl (lv_at hl 0 rfl) ?_
      refine lv_iload_n hx hb dX0_reaches_73 rfl (lv_at hl 1 rfl) ?_
      refine lv_iload_n hx hb dX0_reaches_74 rfl (lv_at hl 2 rfl) ?_
      obtain ⟨ca, hf⟩ := m_chkE hf
      replace ca := z_in hM (by decide) ca
      obtain ⟨o3, ho, hf⟩ := m_calE hf
      refine z_callVi (k := 0) (C := RX0) (T := TX0) (N := 7) (fl := zf_0) X hM rfl zc_0 ca (c_X0_castles ho) gX0_reaches_X0_castles rfl ⟨rfl, rfl⟩ hd_X0_castles ⟨Nat.le_of_ble_eq_true rfl, Nat.le_of_ble_eq_true rfl⟩ rfl hl.1 rfl (Nat.le_of_ble_eq_true rfl) dX0_reaches_75 (fun H locs hM => ?_)
      clear ho
      refine lv_if_eq (tgt := 94) hx hb dX0_reaches_78 (by decide) (fun cc1 => ?_) (fun cc1 => ?_)
      · replace hf := m_ifT hf cc1
        exact w_X0_reaches_94 X hret hf hM (lv_sub hl [] rfl)
      · replace hf := m_ifF hf cc1
        refine lv_aload_n hx hb dX0_reaches_81 rfl (lv_at hl 0 rfl) ?_
        refine lv_iload_n hx hb dX0_reaches_82 rfl (lv_at hl 1 rfl) ?_
        refine lv_iload_n hx hb dX0_reaches_83 rfl (lv_at hl 2 rfl) ?_
        obtain ⟨ca, hf⟩ := m_chkE hf
        replace ca := z_in hM (by decide) ca
        obtain ⟨o4, ho, hf⟩ := m_calE hf
        refine z_callVi (k := 0) (C := RX0) (T := TX0) (N := 7) (fl := zf_0) X hM rfl zc_0 ca (c_X0_castlingIsOpen ho) gX0_reaches_X0_castlingIsOpen rfl ⟨rfl, rfl⟩ hd_X0_castlingIsOpen ⟨Nat.le_of_ble_eq_true rfl, Nat.le_of_ble_eq_true rfl⟩ rfl hl.1 rfl (Nat.le_of_ble_eq_true rfl) dX0_reaches_84 (fun H locs hM => ?_)
        clear ho
        refine lv_if_eq (tgt := 94) hx hb dX0_reaches_87 (by decide) (fun cc1 => ?_) (fun cc1 => ?_)
        · replace hf := m_ifT hf cc1
          exact w_X0_reaches_94 X hret hf hM (lv_sub hl [] rfl)
        · replace hf := m_ifF hf cc1
          exact w_X0_reaches_90 X hret hf hM (lv_sub hl [] rfl)
  · replace hf := m_ifT hf cc1
    refine lv_aload_n hx hb dX0_reaches_56 rfl (lv_at hl 0 rfl) ?_
    refine lv_iload_n hx hb dX0_reaches_57 rfl (lv_at hl 1 rfl) ?_
    refine lv_iload_n hx hb dX0_reaches_58 rfl (lv_at hl 2 rfl) ?_
    obtain ⟨ca, hf⟩ := m_chkE hf
    replace ca := z_in hM (by decide) ca
    obtain ⟨o5, ho, hf⟩ := m_calE hf
    refine z_callVi (k := 0) (C := RX0) (T := TX0) (N := 7) (fl := zf_0) X hM rfl zc_0 ca (c_X0_pawnReaches ho) gX0_reaches_X0_pawnReaches rfl ⟨rfl, rfl⟩ hd_X0_pawnReaches ⟨Nat.le_of_ble_eq_true rfl, Nat.le_of_ble_eq_true rfl⟩ rfl hl.1 rfl (Nat.le_of_ble_eq_true rfl) dX0_reaches_59 (fun H locs hM => ?_)
    clear ho
    obtain ⟨cd, hf⟩ := m_chkE hf
    cases hf
    exact hret H locs _ ls hM (m_nb cd) dX0_reaches_62
noncomputable def f_X0_reaches_0 (x0 : Nat) (x1 : Int32) (x2 : Int32) (S : ZS) : Option (Int32 × ZS) :=
  m_chk (zK S x0 = 0) (
  m_cal (zP S 0 x0) (fun b1 =>
  m_chk (zK S b1 = 14) (
  m_chk (¬ (x1 < 0 ∨ zN S b1 ≤ (x1).toNatClampNeg)) (
  m_bnd (zA S b1 (x1).toNatClampNeg) (fun v2 =>
  m_if (v2 = 0) (
  f_X0_reaches_45  S
  ) (
  m_bnd (v2 >>> ((3 : Int32) &&& 31)) (fun v3 =>
  m_chk (zK S x0 = 0) (
  m_if (v3 = (zI S 3 x0)) (
  m_chk (zK S x0 = 0) (
  m_cal (zP S 0 x0) (fun b4 =>
  m_chk (zK S b4 = 14) (
  m_chk (¬ (x2 < 0 ∨ zN S b4 ≤ (x2).toNatClampNeg)) (
  m_bnd (zA S b4 (x2).toNatClampNeg) (fun v5 =>
  m_if (v5 = 0) (
  f_X0_reaches_47 x0 x1 x2 S
  ) (
  m_chk (zK S x0 = 0) (
  m_cal (zP S 0 x0) (fun b6 =>
  m_chk (zK S b6 = 14) (
  m_chk (¬ (x2 < 0 ∨ zN S b6 ≤ (x2).toNatClampNeg)) (
  m_bnd (zA S b6 (x2).toNatClampNeg) (fun v7 =>
  m_bnd (v7 >>> ((3 : Int32) &&& 31)) (fun v8 =>
  m_chk (zK S x0 = 0) (
  m_if (v8 = (zI S 3 x0)) (
  f_X0_reaches_45  S
  ) (
  f_X0_reaches_47 x0 x1 x2 S
  ))))))))
  ))))))
  ) (
  f_X0_reaches_45  S
  )))
  ))))))

set_option maxRecDepth 100000 in
set_option maxHeartbeats 4000000 in
theorem w_X0_reaches_0 {p : Program} {l : Launch} {e : Env} {s : State} {m : MethodId} {args : Array Value} {below : List Frame} {meth : Method} {c : Code} {Q : State → Prop} {D : va_G} {y : Nat → ClassId} {A0 : Nat → Prop} {o : Int32 × ZS} (X : CallFix p m c cX0_reaches 4 s args wsX0_reaches RX0) (hret : zRi p l e ({ frames := 2, cells := 0, slots := 0, locals := 55 } : Room) s m args below meth c Q cX0_reaches D y A0 .boolean o) {x0 : Nat} {x1 : Int32} {x2 : Int32} {S : ZS} {H : Heap} {locs : List Loc} {ls : Array Slot} (hf : f_X0_reaches_0 x0 x1 x2 S = some o) (hM : zH D y A0 s H locs S) (hl : lv_has ls 4 [(0, .ref (zh y x0)), (1, .int x1), (2, .int x2)]) : W p l e ({ frames := 2, cells := 0, slots := 0, locals := 55 } : Room) s m args below meth c H locs 0 0 Q (F0 m 0 ls []) := by
  obtain ⟨hx, hb, hml, hown, hts⟩ := id X
  unfold f_X0_reaches_0 at hf
  refine lv_aload_n hx hb dX0_reaches_0 rfl (lv_at hl 0 rfl) ?_
  obtain ⟨ca, hf⟩ := m_chkE hf
  replace ca := z_in hM (by decide) ca
  refine z_get (k := 0) (j := 0) (C := RX0) (T := TX0) (N := 7) (fl := zf_0) (v := va_rf ((zP S 0 x0).map (zh y))) X hw_X0_reaches_0 hM rfl zc_0 ca (by decide) fl_X0_reaches_0_0 rfl dX0_reaches_1 ?_
  clear ca
  obtain ⟨b1, hb9, hf⟩ := m_calE hf
  refine z_topr hb9 ?_
  clear hb9
  refine lv_iload_n hx hb dX0_reaches_4 rfl (lv_at hl 1 rfl) ?_
  obtain ⟨ca, hf⟩ := m_chkE hf
  replace ca := z_in hM (by decide) ca
  obtain ⟨cd, hf⟩ := m_chkE hf
  refine z_iald X hM ca cd dX0_reaches_5 ?_
  clear ca cd
  obtain ⟨v2, ev, hf⟩ := m_bndE hf
  refine m_top ev ?_
  clear ev
  refine lv_istore_n (lv' := [(3, .int v2), (0, .ref (zh y x0)), (1, .int x1), (2, .int x2)]) hx hb dX0_reaches_6 rfl hl (by decide) rfl (fun ls hl => ?_)
  refine lv_iload_n hx hb dX0_reaches_7 rfl (lv_at hl 0 rfl) ?_
  refine lv_if_eq (tgt := 45) hx hb dX0_reaches_8 (by decide) (fun cc1 => ?_) (fun cc1 => ?_)
  · replace hf := m_ifT hf cc1
    exact w_X0_reaches_45 X hret hf hM (lv_sub hl [] rfl)
  · replace hf := m_ifF hf cc1
    refine lv_iload_n hx hb dX0_reaches_11 rfl (lv_at hl 0 rfl) ?_
    refine lv_iconst (v := (3 : Int32)) hx hb dX0_reaches_12 (by decide) ?_
    refine lv_ishr hx hb dX0_reaches_13 ?_
    obtain ⟨v3, ev, hf⟩ := m_bndE hf
    refine m_top ev ?_
    clear ev
    refine lv_aload_n hx hb dX0_reaches_14 rfl (lv_at hl 1 rfl) ?_
    obtain ⟨ca, hf⟩ := m_chkE hf
    replace ca := z_in hM (by decide) ca
    refine z_get (k := 0) (j := 3) (C := RX0) (T := TX0) (N := 7) (fl := zf_0) (v := .int (zI S 3 x0)) X hw_X0_reaches_0 hM rfl zc_0 ca (by decide) fl_X0_reaches_0_3 rfl dX0_reaches_15 ?_
    clear ca
    refine lv_icmp_ne (tgt := 45) hx hb dX0_reaches_18 (by decide) (fun cc1 => ?_) (fun cc1 => ?_)
    · replace hf := m_ifF hf cc1
      exact w_X0_reaches_45 X hret hf hM (lv_sub hl [] rfl)
    · replace hf := m_ifT hf cc1
      refine lv_aload_n hx hb dX0_reaches_21 rfl (lv_at hl 1 rfl) ?_
      obtain ⟨ca, hf⟩ := m_chkE hf
      replace ca := z_in hM (by decide) ca
      refine z_get (k := 0) (j := 0) (C := RX0) (T := TX0) (N := 7) (fl := zf_0) (v := va_rf ((zP S 0 x0).map (zh y))) X hw_X0_reaches_0 hM rfl zc_0 ca (by decide) fl_X0_reaches_0_0 rfl dX0_reaches_22 ?_
      clear ca
      obtain ⟨b4, hb9, hf⟩ := m_calE hf
      refine z_topr hb9 ?_
      clear hb9
      refine lv_iload_n hx hb dX0_reaches_25 rfl (lv_at hl 3 rfl) ?_
      obtain ⟨ca, hf⟩ := m_chkE hf
      replace ca := z_in hM (by decide) ca
      obtain ⟨cd, hf⟩ := m_chkE hf
      refine z_iald X hM ca cd dX0_reaches_26 ?_
      clear ca cd
      obtain ⟨v5, ev, hf⟩ := m_bndE hf
      refine m_top ev ?_
      clear ev
      refine lv_if_eq (tgt := 47) hx hb dX0_reaches_27 (by decide) (fun cc1 => ?_) (fun cc1 => ?_)
      · replace hf := m_ifT hf cc1
        exact w_X0_reaches_47 (x0 := x0) (x1 := x1) (x2 := x2) X hret hf hM (lv_sub hl [1, 2, 3] rfl)
      · replace hf := m_ifF hf cc1
        refine lv_aload_n hx hb dX0_reaches_30 rfl (lv_at hl 1 rfl) ?_
        obtain ⟨ca, hf⟩ := m_chkE hf
        replace ca := z_in hM (by decide) ca
        refine z_get (k := 0) (j := 0) (C := RX0) (T := TX0) (N := 7) (fl := zf_0) (v := va_rf ((zP S 0 x0).map (zh y))) X hw_X0_reaches_0 hM rfl zc_0 ca (by decide) fl_X0_reaches_0_0 rfl dX0_reaches_31 ?_
        clear ca
        obtain ⟨b6, hb9, hf⟩ := m_calE hf
        refine z_topr hb9 ?_
        clear hb9
        refine lv_iload_n hx hb dX0_reaches_34 rfl (lv_at hl 3 rfl) ?_
        obtain ⟨ca, hf⟩ := m_chkE hf
        replace ca := z_in hM (by decide) ca
        obtain ⟨cd, hf⟩ := m_chkE hf
        refine z_iald X hM ca cd dX0_reaches_35 ?_
        clear ca cd
        obtain ⟨v7, ev, hf⟩ := m_bndE hf
        refine m_top ev ?_
        clear ev
        refine lv_iconst (v := (3 : Int32)) hx hb dX0_reaches_36 (by decide) ?_
        refine lv_ishr hx hb dX0_reaches_37 ?_
        obtain ⟨v8, ev, hf⟩ := m_bndE hf
        refine m_top ev ?_
        clear ev
        refine lv_aload_n hx hb dX0_reaches_38 rfl (lv_at hl 1 rfl) ?_
        obtain ⟨ca, hf⟩ := m_chkE hf
        replace ca := z_in hM (by decide) ca
        refine z_get (k := 0) (j := 3) (C := RX0) (T := TX0) (N := 7) (fl := zf_0) (v := .int (zI S 3 x0)) X hw_X0_reaches_0 hM rfl zc_0 ca (by decide) fl_X0_reaches_0_3 rfl dX0_reaches_39 ?_
        clear ca
        refine lv_icmp_ne (tgt := 47) hx hb dX0_reaches_42 (by decide) (fun cc1 => ?_) (fun cc1 => ?_)
        · replace hf := m_ifF hf cc1
          exact w_X0_reaches_47 (x0 := x0) (x1 := x1) (x2 := x2) X hret hf hM (lv_sub hl [1, 2, 3] rfl)
        · replace hf := m_ifT hf cc1
          exact w_X0_reaches_45 X hret hf hM (lv_sub hl [] rfl)
noncomputable def f_X0_reaches (x0 : Nat) (x1 : Int32) (x2 : Int32) (S : ZS) : Option (Int32 × ZS) := f_X0_reaches_0 x0 x1 x2 S
theorem c_X0_reaches {l : Launch} {D : va_G} {y : Nat → ClassId} {x0 : Nat} {x1 : Int32} {x2 : Int32} {S : ZS} {o : Int32 × ZS} (hf : f_X0_reaches x0 x1 x2 S = some o) : zMi l yX0_reaches wsX0_reaches ({ frames := 2, cells := 0, slots := 0, locals := 55 } : Room) [.ref (zh y x0), .int x1, .int x2] D y S o :=
  z_entryI (own := RX0) (cc := cX0_reaches) (maxL := 4) (by decide) rfl rfl (Nat.le_of_ble_eq_true rfl) (fun p e s m args below meth c A0 Q H locs ls X hret hM hl => w_X0_reaches_0 X hret hf hM (lv_sub hl [0, 1, 2] rfl))
theorem hd_X0_takes : yX0_takes.cls = RX0 ∧ yX0_takes.cls ≠ "java/lang/invoke/MethodHandle" ∧ yX0_takes.cls ≠ "java/lang/invoke/VarHandle" ∧ (parseMethodDescriptor yX0_takes.desc).map (fun d => d.parameters.length) = some 2 := by decide +kernel
theorem fl_X0_takes_0_0 : Cond.fieldLink RX0 9 "MoveTexts$Board" "men" "[I" ∈ wsX0_takes := by decide +kernel
theorem hw_X0_takes_0 : ∀ w ∈ wsX00, w ∈ wsX0_takes := by decide +kernel
noncomputable def f_X0_takes_34 (t0 : Int32) (S : ZS) : Option (Int32 × ZS) :=
  m_chk (vp_nar .boolean t0 = t0) (some (t0, S))

set_option maxRecDepth 100000 in
set_option maxHeartbeats 4000000 in
theorem w_X0_takes_34 {p : Program} {l : Launch} {e : Env} {s : State} {m : MethodId} {args : Array Value} {below : List Frame} {meth : Method} {c : Code} {Q : State → Prop} {D : va_G} {y : Nat → ClassId} {A0 : Nat → Prop} {o : Int32 × ZS} (X : CallFix p m c cX0_takes 3 s args wsX0_takes RX0) (hret : zRi p l e ({ frames := 1, cells := 0, slots := 0, locals := 21 } : Room) s m args below meth c Q cX0_takes D y A0 .boolean o) {t0 : Int32} {S : ZS} {H : Heap} {locs : List Loc} {ls : Array Slot} (hf : f_X0_takes_34 t0 S = some o) (hM : zH D y A0 s H locs S) (hl : lv_has ls 3 []) : W p l e ({ frames := 1, cells := 0, slots := 0, locals := 21 } : Room) s m args below meth c H locs 0 0 Q (F0 m 34 ls [.int t0]) := by
  obtain ⟨hx, hb, hml, hown, hts⟩ := id X
  unfold f_X0_takes_34 at hf
  obtain ⟨cd, hf⟩ := m_chkE hf
  cases hf
  exact hret H locs _ ls hM (m_nb cd) dX0_takes_34
noncomputable def f_X0_takes_29 (S : ZS) : Option (Int32 × ZS) :=
  f_X0_takes_34 (1 : Int32) S

set_option maxRecDepth 100000 in
set_option maxHeartbeats 4000000 in
theorem w_X0_takes_29 {p : Program} {l : Launch} {e : Env} {s : State} {m : MethodId} {args : Array Value} {below : List Frame} {meth : Method} {c : Code} {Q : State → Prop} {D : va_G} {y : Nat → ClassId} {A0 : Nat → Prop} {o : Int32 × ZS} (X : CallFix p m c cX0_takes 3 s args wsX0_takes RX0) (hret : zRi p l e ({ frames := 1, cells := 0, slots := 0, locals := 21 } : Room) s m args below meth c Q cX0_takes D y A0 .boolean o) {S : ZS} {H : Heap} {locs : List Loc} {ls : Array Slot} (hf : f_X0_takes_29  S = some o) (hM : zH D y A0 s H locs S) (hl : lv_has ls 3 []) : W p l e ({ frames := 1, cells := 0, slots := 0, locals := 21 } : Room) s m args below meth c H locs 0 0 Q (F0 m 29 ls []) := by
  obtain ⟨hx, hb, hml, hown, hts⟩ := id X
  unfold f_X0_takes_29 at hf
  refine lv_iconst (v := (1 : Int32)) hx hb dX0_takes_29 (by decide) ?_
  refine lv_goto (tgt := 34) hx hb dX0_takes_30 (by decide) ?_
  exact w_X0_takes_34 (t0 := (1 : Int32)) X hret hf hM (lv_sub hl [] rfl)
noncomputable def f_X0_takes_33 (S : ZS) : Option (Int32 × ZS) :=
  f_X0_takes_34 (0 : Int32) S

set_option maxRecDepth 100000 in
set_option maxHeartbeats 4000000 in
theorem w_X0_takes_33 {p : Program} {l : Launch} {e : Env} {s : State} {m : MethodId} {args : Array Value} {below : List Frame} {meth : Method} {c : Code} {Q : State → Prop} {D : va_G} {y : Nat → ClassId} {A0 : Nat → Prop} {o : Int32 × ZS} (X : CallFix p m c cX0_takes 3 s args wsX0_takes RX0) (hret : zRi p l e ({ frames := 1, cells := 0, slots := 0, locals := 21 } : Room) s m args below meth c Q cX0_takes D y A0 .boolean o) {S : ZS} {H : Heap} {locs : List Loc} {ls : Array Slot} (hf : f_X0_takes_33  S = some o) (hM : zH D y A0 s H locs S) (hl : lv_has ls 3 []) : W p l e ({ frames := 1, cells := 0, slots := 0, locals := 21 } : Room) s m args below meth c H locs 0 0 Q (F0 m 33 ls []) := by
  obtain ⟨hx, hb, hml, hown, hts⟩ := id X
  unfold f_X0_takes_33 at hf
  refine lv_iconst (v := (0 : Int32)) hx hb dX0_takes_33 (by decide) ?_
  exact w_X0_takes_34 (t0 := (0 : Int32)) X hret hf hM (lv_sub hl [] rfl)
noncomputable def f_X0_takes_0 (x0 : Nat) (x1 : Int32) (x2 : Int32) (S : ZS) : Option (Int32 × ZS) :=
  m_chk (zK S x0 = 0) (
  m_cal (zP S 0 x0) (fun b1 =>
  m_chk (zK S b1 = 14) (
  m_chk (¬ (x2 < 0 ∨ zN S b1 ≤ (x2).toNatClampNeg)) (
  m_bnd (zA S b1 (x2).toNatClampNeg) (fun v2 =>
  m_if (v2 = 0) (
  m_chk (zK S x0 = 0) (
  m_cal (f_X0_kindAt x0 x1 S) (fun o3 =>
  m_if (o3.1 = (1 : Int32)) (
  m_bnd (x1 &&& (7 : Int32)) (fun v4 =>
  m_bnd (x2 &&& (7 : Int32)) (fun v5 =>
  m_if (v4 = v5) (
  f_X0_takes_33  o3.2
  ) (
  f_X0_takes_29  o3.2
  )))
  ) (
  f_X0_takes_33  o3.2
  )))
  ) (
  f_X0_takes_29  S
  ))))))

set_option maxRecDepth 100000 in
set_option maxHeartbeats 4000000 in
theorem w_X0_takes_0 {p : Program} {l : Launch} {e : Env} {s : State} {m : MethodId} {args : Array Value} {below : List Frame} {meth : Method} {c : Code} {Q : State → Prop} {D : va_G} {y : Nat → ClassId} {A0 : Nat → Prop} {o : Int32 × ZS} (X : CallFix p m c cX0_takes 3 s args wsX0_takes RX0) (hret : zRi p l e ({ frames := 1, cells := 0, slots := 0, locals := 21 } : Room) s m args below meth c Q cX0_takes D y A0 .boolean o) {x0 : Nat} {x1 : Int32} {x2 : Int32} {S : ZS} {H : Heap} {locs : List Loc} {ls : Array Slot} (hf : f_X0_takes_0 x0 x1 x2 S = some o) (hM : zH D y A0 s H locs S) (hl : lv_has ls 3 [(0, .ref (zh y x0)), (1, .int x1), (2, .int x2)]) : W p l e ({ frames := 1, cells := 0, slots := 0, locals := 21 } : Room) s m args below meth c H locs 0 0 Q (F0 m 0 ls []) := by
  obtain ⟨hx, hb, hml, hown, hts⟩ := id X
  unfold f_X0_takes_0 at hf
  refine lv_aload_n hx hb dX0_takes_0 rfl (lv_at hl 0 rfl) ?_
  obtain ⟨ca, hf⟩ := m_chkE hf
  replace ca := z_in hM (by decide) ca
  refine z_get (k := 0) (j := 0) (C := RX0) (T := TX0) (N := 7) (fl := zf_0) (v := va_rf ((zP S 0 x0).map (zh y))) X hw_X0_takes_0 hM rfl zc_0 ca (by decide) fl_X0_takes_0_0 rfl dX0_takes_1 ?_
  clear ca
  obtain ⟨b1, hb9, hf⟩ := m_calE hf
  refine z_topr hb9 ?_
  clear hb9
  refine lv_iload_n hx hb dX0_takes_4 rfl (lv_at hl 2 rfl) ?_
  obtain ⟨ca, hf⟩ := m_chkE hf
  replace ca := z_in hM (by decide) ca
  obtain ⟨cd, hf⟩ := m_chkE hf
  refine z_iald X hM ca cd dX0_takes_5 ?_
  clear ca cd
  obtain ⟨v2, ev, hf⟩ := m_bndE hf
  refine m_top ev ?_
  clear ev
  refine lv_if_ne (tgt := 29) hx hb dX0_takes_6 (by decide) (fun cc1 => ?_) (fun cc1 => ?_)
  · replace hf := m_ifF hf cc1
    exact w_X0_takes_29 X hret hf hM (lv_sub hl [] rfl)
  · replace hf := m_ifT hf cc1
    refine lv_aload_n hx hb dX0_takes_9 rfl (lv_at hl 0 rfl) ?_
    refine lv_iload_n hx hb dX0_takes_10 rfl (lv_at hl 1 rfl) ?_
    obtain ⟨ca, hf⟩ := m_chkE hf
    replace ca := z_in hM (by decide) ca
    obtain ⟨o3, ho, hf⟩ := m_calE hf
    refine z_callVi (k := 0) (C := RX0) (T := TX0) (N := 7) (fl := zf_0) X hM rfl zc_0 ca (c_X0_kindAt ho) gX0_takes_X0_kindAt rfl ⟨rfl, rfl⟩ hd_X0_kindAt ⟨Nat.le_of_ble_eq_true rfl, Nat.le_of_ble_eq_true rfl⟩ rfl hl.1 rfl (Nat.le_of_ble_eq_true rfl) dX0_takes_11 (fun H locs hM => ?_)
    clear ho
    refine lv_iconst (v := (1 : Int32)) hx hb dX0_takes_14 (by decide) ?_
    refine lv_icmp_ne (tgt := 33) hx hb dX0_takes_15 (by decide) (fun cc1 => ?_) (fun cc1 => ?_)
    · replace hf := m_ifF hf cc1
      exact w_X0_takes_33 X hret hf hM (lv_sub hl [] rfl)
    · replace hf := m_ifT hf cc1
      refine lv_iload_n hx hb dX0_takes_18 rfl (lv_at hl 1 rfl) ?_
      refine lv_bipush (v := (7 : Int32)) hx hb dX0_takes_19 (by decide) ?_
      refine lv_iand hx hb dX0_takes_21 ?_
      obtain ⟨v4, ev, hf⟩ := m_bndE hf
      refine m_top ev ?_
      clear ev
      refine lv_iload_n hx hb dX0_takes_22 rfl (lv_at hl 2 rfl) ?_
      refine lv_bipush (v := (7 : Int32)) hx hb dX0_takes_23 (by decide) ?_
      refine lv_iand hx hb dX0_takes_25 ?_
      obtain ⟨v5, ev, hf⟩ := m_bndE hf
      refine m_top ev ?_
      clear ev
      refine lv_icmp_eq (tgt := 33) hx hb dX0_takes_26 (by decide) (fun cc1 => ?_) (fun cc1 => ?_)
      · replace hf := m_ifT hf cc1
        exact w_X0_takes_33 X hret hf hM (lv_sub hl [] rfl)
      · replace hf := m_ifF hf cc1
        exact w_X0_takes_29 X hret hf hM (lv_sub hl [] rfl)
noncomputable def f_X0_takes (x0 : Nat) (x1 : Int32) (x2 : Int32) (S : ZS) : Option (Int32 × ZS) := f_X0_takes_0 x0 x1 x2 S
theorem c_X0_takes {l : Launch} {D : va_G} {y : Nat → ClassId} {x0 : Nat} {x1 : Int32} {x2 : Int32} {S : ZS} {o : Int32 × ZS} (hf : f_X0_takes x0 x1 x2 S = some o) : zMi l yX0_takes wsX0_takes ({ frames := 1, cells := 0, slots := 0, locals := 21 } : Room) [.ref (zh y x0), .int x1, .int x2] D y S o :=
  z_entryI (own := RX0) (cc := cX0_takes) (maxL := 3) (by decide) rfl rfl (Nat.le_of_ble_eq_true rfl) (fun p e s m args below meth c A0 Q H locs ls X hret hM hl => w_X0_takes_0 X hret hf hM (lv_sub hl [0, 1, 2] rfl))
theorem hd_X0_becomesAnother : yX0_becomesAnother.cls = RX0 ∧ yX0_becomesAnother.cls ≠ "java/lang/invoke/MethodHandle" ∧ yX0_becomesAnother.cls ≠ "java/lang/invoke/VarHandle" ∧ (parseMethodDescriptor yX0_becomesAnother.desc).map (fun d => d.parameters.length) = some 2 := by decide +kernel
noncomputable def f_X0_becomesAnother_26 (t0 : Int32) (S : ZS) : Option (Int32 × ZS) :=
  m_chk (vp_nar .boolean t0 = t0) (some (t0, S))

set_option maxRecDepth 100000 in
set_option maxHeartbeats 4000000 in
theorem w_X0_becomesAnother_26 {p : Program} {l : Launch} {e : Env} {s : State} {m : MethodId} {args : Array Value} {below : List Frame} {meth : Method} {c : Code} {Q : State → Prop} {D : va_G} {y : Nat → ClassId} {A0 : Nat → Prop} {o : Int32 × ZS} (X : CallFix p m c cX0_becomesAnother 3 s args wsX0_becomesAnother RX0) (hret : zRi p l e ({ frames := 1, cells := 0, slots := 0, locals := 21 } : Room) s m args below meth c Q cX0_becomesAnother D y A0 .boolean o) {t0 : Int32} {S : ZS} {H : Heap} {locs : List Loc} {ls : Array Slot} (hf : f_X0_becomesAnother_26 t0 S = some o) (hM : zH D y A0 s H locs S) (hl : lv_has ls 3 []) : W p l e ({ frames := 1, cells := 0, slots := 0, locals := 21 } : Room) s m args below meth c H locs 0 0 Q (F0 m 26 ls [.int t0]) := by
  obtain ⟨hx, hb, hml, hown, hts⟩ := id X
  unfold f_X0_becomesAnother_26 at hf
  obtain ⟨cd, hf⟩ := m_chkE hf
  cases hf
  exact hret H locs _ ls hM (m_nb cd) dX0_becomesAnother_26
noncomputable def f_X0_becomesAnother_25 (S : ZS) : Option (Int32 × ZS) :=
  f_X0_becomesAnother_26 (0 : Int32) S

set_option maxRecDepth 100000 in
set_option maxHeartbeats 4000000 in
theorem w_X0_becomesAnother_25 {p : Program} {l : Launch} {e : Env} {s : State} {m : MethodId} {args : Array Value} {below : List Frame} {meth : Method} {c : Code} {Q : State → Prop} {D : va_G} {y : Nat → ClassId} {A0 : Nat → Prop} {o : Int32 × ZS} (X : CallFix p m c cX0_becomesAnother 3 s args wsX0_becomesAnother RX0) (hret : zRi p l e ({ frames := 1, cells := 0, slots := 0, locals := 21 } : Room) s m args below meth c Q cX0_becomesAnother D y A0 .boolean o) {S : ZS} {H : Heap} {locs : List Loc} {ls : Array Slot} (hf : f_X0_becomesAnother_25  S = some o) (hM : zH D y A0 s H locs S) (hl : lv_has ls 3 []) : W p l e ({ frames := 1, cells := 0, slots := 0, locals := 21 } : Room) s m args below meth c H locs 0 0 Q (F0 m 25 ls []) := by
  obtain ⟨hx, hb, hml, hown, hts⟩ := id X
  unfold f_X0_becomesAnother_25 at hf
  refine lv_iconst (v := (0 : Int32)) hx hb dX0_becomesAnother_25 (by decide) ?_
  exact w_X0_becomesAnother_26 (t0 := (0 : Int32)) X hret hf hM (lv_sub hl [] rfl)
noncomputable def f_X0_becomesAnother_21 (S : ZS) : Option (Int32 × ZS) :=
  f_X0_becomesAnother_26 (1 : Int32) S

set_option maxRecDepth 100000 in
set_option maxHeartbeats 4000000 in
theorem w_X0_becomesAnother_21 {p : Program} {l : Launch} {e : Env} {s : State} {m : MethodId} {args : Array Value} {below : List Frame} {meth : Method} {c : Code} {Q : State → Prop} {D : va_G} {y : Nat → ClassId} {A0 : Nat → Prop} {o : Int32 × ZS} (X : CallFix p m c cX0_becomesAnother 3 s args wsX0_becomesAnother RX0) (hret : zRi p l e ({ frames := 1, cells := 0, slots := 0, locals := 21 } : Room) s m args below meth c Q cX0_becomesAnother D y A0 .boolean o) {S : ZS} {H : Heap} {locs : List Loc} {ls : Array Slot} (hf : f_X0_becomesAnother_21  S = some o) (hM : zH D y A0 s H locs S) (hl : lv_has ls 3 []) : W p l e ({ frames := 1, cells := 0, slots := 0, locals := 21 } : Room) s m args below meth c H locs 0 0 Q (F0 m 21 ls []) := by
  obtain ⟨hx, hb, hml, hown, hts⟩ := id X
  unfold f_X0_becomesAnother_21 at hf
  refine lv_iconst (v := (1 : Int32)) hx hb dX0_becomesAnother_21 (by decide) ?_
  refine lv_goto (tgt := 26) hx hb dX0_becomesAnother_22 (by decide) ?_
  exact w_X0_becomesAnother_26 (t0 := (1 : Int32)) X hret hf hM (lv_sub hl [] rfl)
noncomputable def f_X0_becomesAnother_0 (x0 : Nat) (x1 : Int32) (x2 : Int32) (S : ZS) : Option (Int32 × ZS) :=
  m_chk (zK S x0 = 0) (
  m_cal (f_X0_kindAt x0 x1 S) (fun o1 =>
  m_if (o1.1 = (1 : Int32)) (
  m_if (x2 < (8 : Int32)) (
  f_X0_becomesAnother_21  o1.2
  ) (
  m_if (x2 < (56 : Int32)) (
  f_X0_becomesAnother_25  o1.2
  ) (
  f_X0_becomesAnother_21  o1.2
  )
  )
  ) (
  f_X0_becomesAnother_25  o1.2
  )))

set_option maxRecDepth 100000 in
set_option maxHeartbeats 4000000 in
theorem w_X0_becomesAnother_0 {p : Program} {l : Launch} {e : Env} {s : State} {m : MethodId} {args : Array Value} {below : List Frame} {meth : Method} {c : Code} {Q : State → Prop} {D : va_G} {y : Nat → ClassId} {A0 : Nat → Prop} {o : Int32 × ZS} (X : CallFix p m c cX0_becomesAnother 3 s args wsX0_becomesAnother RX0) (hret : zRi p l e ({ frames := 1, cells := 0, slots := 0, locals := 21 } : Room) s m args below meth c Q cX0_becomesAnother D y A0 .boolean o) {x0 : Nat} {x1 : Int32} {x2 : Int32} {S : ZS} {H : Heap} {locs : List Loc} {ls : Array Slot} (hf : f_X0_becomesAnother_0 x0 x1 x2 S = some o) (hM : zH D y A0 s H locs S) (hl : lv_has ls 3 [(0, .ref (zh y x0)), (1, .int x1), (2, .int x2)]) : W p l e ({ frames := 1, cells := 0, slots := 0, locals := 21 } : Room) s m args below meth c H locs 0 0 Q (F0 m 0 ls []) := by
  obtain ⟨hx, hb, hml, hown, hts⟩ := id X
  unfold f_X0_becomesAnother_0 at hf
  refine lv_aload_n hx hb dX0_becomesAnother_0 rfl (lv_at hl 0 rfl) ?_
  refine lv_iload_n hx hb dX0_becomesAnother_1 rfl (lv_at hl 1 rfl) ?_
  obtain ⟨ca, hf⟩ := m_chkE hf
  replace ca := z_in hM (by decide) ca
  obtain ⟨o1, ho, hf⟩ := m_calE hf
  refine z_callVi (k := 0) (C := RX0) (T := TX0) (N := 7) (fl := zf_0) X hM rfl zc_0 ca (c_X0_kindAt ho) gX0_becomesAnother_X0_kindAt rfl ⟨rfl, rfl⟩ hd_X0_kindAt ⟨Nat.le_of_ble_eq_true rfl, Nat.le_of_ble_eq_true rfl⟩ rfl hl.1 rfl (Nat.le_of_ble_eq_true rfl) dX0_becomesAnother_2 (fun H locs hM => ?_)
  clear ho
  refine lv_iconst (v := (1 : Int32)) hx hb dX0_becomesAnother_5 (by decide) ?_
  refine lv_icmp_ne (tgt := 25) hx hb dX0_becomesAnother_6 (by decide) (fun cc1 => ?_) (fun cc1 => ?_)
  · replace hf := m_ifF hf cc1
    exact w_X0_becomesAnother_25 X hret hf hM (lv_sub hl [] rfl)
  · replace hf := m_ifT hf cc1
    refine lv_iload_n hx hb dX0_becomesAnother_9 rfl (lv_at hl 2 rfl) ?_
    refine lv_bipush (v := (8 : Int32)) hx hb dX0_becomesAnother_10 (by decide) ?_
    refine lv_icmp_lt (tgt := 21) hx hb dX0_becomesAnother_12 (by decide) (fun cc1 => ?_) (fun cc1 => ?_)
    · replace hf := m_ifT hf cc1
      exact w_X0_becomesAnother_21 X hret hf hM (lv_sub hl [] rfl)
    · replace hf := m_ifF hf cc1
      refine lv_iload_n hx hb dX0_becomesAnother_15 rfl (lv_at hl 2 rfl) ?_
      refine lv_bipush (v := (56 : Int32)) hx hb dX0_becomesAnother_16 (by decide) ?_
      refine lv_icmp_lt (tgt := 25) hx hb dX0_becomesAnother_18 (by decide) (fun cc1 => ?_) (fun cc1 => ?_)
      · replace hf := m_ifT hf cc1
        exact w_X0_becomesAnother_25 X hret hf hM (lv_sub hl [] rfl)
      · replace hf := m_ifF hf cc1
        exact w_X0_becomesAnother_21 X hret hf hM (lv_sub hl [] rfl)
noncomputable def f_X0_becomesAnother (x0 : Nat) (x1 : Int32) (x2 : Int32) (S : ZS) : Option (Int32 × ZS) := f_X0_becomesAnother_0 x0 x1 x2 S
theorem c_X0_becomesAnother {l : Launch} {D : va_G} {y : Nat → ClassId} {x0 : Nat} {x1 : Int32} {x2 : Int32} {S : ZS} {o : Int32 × ZS} (hf : f_X0_becomesAnother x0 x1 x2 S = some o) : zMi l yX0_becomesAnother wsX0_becomesAnother ({ frames := 1, cells := 0, slots := 0, locals := 21 } : Room) [.ref (zh y x0), .int x1, .int x2] D y S o :=
  z_entryI (own := RX0) (cc := cX0_becomesAnother) (maxL := 3) (by decide) rfl rfl (Nat.le_of_ble_eq_true rfl) (fun p e s m args below meth c A0 Q H locs ls X hret hM hl => w_X0_becomesAnother_0 X hret hf hM (lv_sub hl [0, 1, 2] rfl))
theorem hd_X0_pawnAttacks : yX0_pawnAttacks.cls = RX0 ∧ yX0_pawnAttacks.cls ≠ "java/lang/invoke/MethodHandle" ∧ yX0_pawnAttacks.cls ≠ "java/lang/invoke/VarHandle" ∧ (parseMethodDescriptor yX0_pawnAttacks.desc).map (fun d => d.parameters.length) = some 2 := by decide +kernel
theorem fl_X0_pawnAttacks_0_0 : Cond.fieldLink RX0 9 "MoveTexts$Board" "men" "[I" ∈ wsX0_pawnAttacks := by decide +kernel
theorem hw_X0_pawnAttacks_0 : ∀ w ∈ wsX00, w ∈ wsX0_pawnAttacks := by decide +kernel
noncomputable def f_X0_pawnAttacks_34 (S : ZS) : Option (Int32 × ZS) :=
  m_chk (vp_nar .boolean (0 : Int32) = (0 : Int32)) (some ((0 : Int32), S))

set_option maxRecDepth 100000 in
set_option maxHeartbeats 4000000 in
theorem w_X0_pawnAttacks_34 {p : Program} {l : Launch} {e : Env} {s : State} {m : MethodId} {args : Array Value} {below : List Frame} {meth : Method} {c : Code} {Q : State → Prop} {D : va_G} {y : Nat → ClassId} {A0 : Nat → Prop} {o : Int32 × ZS} (X : CallFix p m c cX0_pawnAttacks 5 s args wsX0_pawnAttacks RX0) (hret : zRi p l e ({ frames := 0, cells := 0, slots := 0, locals := 0 } : Room) s m args below meth c Q cX0_pawnAttacks D y A0 .boolean o) {S : ZS} {H : Heap} {locs : List Loc} {ls : Array Slot} (hf : f_X0_pawnAttacks_34  S = some o) (hM : zH D y A0 s H locs S) (hl : lv_has ls 5 []) : W p l e ({ frames := 0, cells := 0, slots := 0, locals := 0 } : Room) s m args below meth c H locs 0 0 Q (F0 m 34 ls []) := by
  obtain ⟨hx, hb, hml, hown, hts⟩ := id X
  unfold f_X0_pawnAttacks_34 at hf
  refine lv_iconst (v := (0 : Int32)) hx hb dX0_pawnAttacks_34 (by decide) ?_
  obtain ⟨cd, hf⟩ := m_chkE hf
  cases hf
  exact hret H locs _ ls hM (m_nb cd) dX0_pawnAttacks_35
noncomputable def f_X0_pawnAttacks_85 (t0 : Int32) (S : ZS) : Option (Int32 × ZS) :=
  m_chk (vp_nar .boolean t0 = t0) (some (t0, S))

set_option maxRecDepth 100000 in
set_option maxHeartbeats 4000000 in
theorem w_X0_pawnAttacks_85 {p : Program} {l : Launch} {e : Env} {s : State} {m : MethodId} {args : Array Value} {below : List Frame} {meth : Method} {c : Code} {Q : State → Prop} {D : va_G} {y : Nat → ClassId} {A0 : Nat → Prop} {o : Int32 × ZS} (X : CallFix p m c cX0_pawnAttacks 5 s args wsX0_pawnAttacks RX0) (hret : zRi p l e ({ frames := 0, cells := 0, slots := 0, locals := 0 } : Room) s m args below meth c Q cX0_pawnAttacks D y A0 .boolean o) {t0 : Int32} {S : ZS} {H : Heap} {locs : List Loc} {ls : Array Slot} (hf : f_X0_pawnAttacks_85 t0 S = some o) (hM : zH D y A0 s H locs S) (hl : lv_has ls 5 []) : W p l e ({ frames := 0, cells := 0, slots := 0, locals := 0 } : Room) s m args below meth c H locs 0 0 Q (F0 m 85 ls [.int t0]) := by
  obtain ⟨hx, hb, hml, hown, hts⟩ := id X
  unfold f_X0_pawnAttacks_85 at hf
  obtain ⟨cd, hf⟩ := m_chkE hf
  cases hf
  exact hret H locs _ ls hM (m_nb cd) dX0_pawnAttacks_85
noncomputable def f_X0_pawnAttacks_84 (S : ZS) : Option (Int32 × ZS) :=
  f_X0_pawnAttacks_85 (0 : Int32) S

set_option maxRecDepth 100000 in
set_option maxHeartbeats 4000000 in
theorem w_X0_pawnAttacks_84 {p : Program} {l : Launch} {e : Env} {s : State} {m : MethodId} {args : Array Value} {below : List Frame} {meth : Method} {c : Code} {Q : State → Prop} {D : va_G} {y : Nat → ClassId} {A0 : Nat → Prop} {o : Int32 × ZS} (X : CallFix p m c cX0_pawnAttacks 5 s args wsX0_pawnAttacks RX0) (hret : zRi p l e ({ frames := 0, cells := 0, slots := 0, locals := 0 } : Room) s m args below meth c Q cX0_pawnAttacks D y A0 .boolean o) {S : ZS} {H : Heap} {locs : List Loc} {ls : Array Slot} (hf : f_X0_pawnAttacks_84  S = some o) (hM : zH D y A0 s H locs S) (hl : lv_has ls 5 []) : W p l e ({ frames := 0, cells := 0, slots := 0, locals := 0 } : Room) s m args below meth c H locs 0 0 Q (F0 m 84 ls []) := by
  obtain ⟨hx, hb, hml, hown, hts⟩ := id X
  unfold f_X0_pawnAttacks_84 at hf
  refine lv_iconst (v := (0 : Int32)) hx hb dX0_pawnAttacks_84 (by decide) ?_
  exact w_X0_pawnAttacks_85 (t0 := (0 : Int32)) X hret hf hM (lv_sub hl [] rfl)
noncomputable def f_X0_pawnAttacks_80 (S : ZS) : Option (Int32 × ZS) :=
  f_X0_pawnAttacks_85 (1 : Int32) S

set_option maxRecDepth 100000 in
set_option maxHeartbeats 4000000 in
theorem w_X0_pawnAttacks_80 {p : Program} {l : Launch} {e : Env} {s : State} {m : MethodId} {args : Array Value} {below : List Frame} {meth : Method} {c : Code} {Q : State → Prop} {D : va_G} {y : Nat → ClassId} {A0 : Nat → Prop} {o : Int32 × ZS} (X : CallFix p m c cX0_pawnAttacks 5 s args wsX0_pawnAttacks RX0) (hret : zRi p l e ({ frames := 0, cells := 0, slots := 0, locals := 0 } : Room) s m args below meth c Q cX0_pawnAttacks D y A0 .boolean o) {S : ZS} {H : Heap} {locs : List Loc} {ls : Array Slot} (hf : f_X0_pawnAttacks_80  S = some o) (hM : zH D y A0 s H locs S) (hl : lv_has ls 5 []) : W p l e ({ frames := 0, cells := 0, slots := 0, locals := 0 } : Room) s m args below meth c H locs 0 0 Q (F0 m 80 ls []) := by
  obtain ⟨hx, hb, hml, hown, hts⟩ := id X
  unfold f_X0_pawnAttacks_80 at hf
  refine lv_iconst (v := (1 : Int32)) hx hb dX0_pawnAttacks_80 (by decide) ?_
  refine lv_goto (tgt := 85) hx hb dX0_pawnAttacks_81 (by decide) ?_
  exact w_X0_pawnAttacks_85 (t0 := (1 : Int32)) X hret hf hM (lv_sub hl [] rfl)
noncomputable def f_X0_pawnAttacks_57 (x0 : Nat) (x3 : Int32) (x4 : Int32) (S : ZS) : Option (Int32 × ZS) :=
  m_bnd (x4 &&& (7 : Int32)) (fun v1 =>
  m_if ((7 : Int32) ≤ v1) (
  f_X0_pawnAttacks_84  S
  ) (
  m_chk (zK S x0 = 0) (
  m_cal (zP S 0 x0) (fun b2 =>
  m_bnd (x4 + (1 : Int32)) (fun v3 =>
  m_chk (zK S b2 = 14) (
  m_chk (¬ (v3 < 0 ∨ zN S b2 ≤ (v3).toNatClampNeg)) (
  m_bnd (zA S b2 (v3).toNatClampNeg) (fun v4 =>
  m_if (v4 = x3) (
  f_X0_pawnAttacks_80  S
  ) (
  f_X0_pawnAttacks_84  S
  )))))))
  ))

set_option maxRecDepth 100000 in
set_option maxHeartbeats 4000000 in
theorem w_X0_pawnAttacks_57 {p : Program} {l : Launch} {e : Env} {s : State} {m : MethodId} {args : Array Value} {below : List Frame} {meth : Method} {c : Code} {Q : State → Prop} {D : va_G} {y : Nat → ClassId} {A0 : Nat → Prop} {o : Int32 × ZS} (X : CallFix p m c cX0_pawnAttacks 5 s args wsX0_pawnAttacks RX0) (hret : zRi p l e ({ frames := 0, cells := 0, slots := 0, locals := 0 } : Room) s m args below meth c Q cX0_pawnAttacks D y A0 .boolean o) {x0 : Nat} {x3 : Int32} {x4 : Int32} {S : ZS} {H : Heap} {locs : List Loc} {ls : Array Slot} (hf : f_X0_pawnAttacks_57 x0 x3 x4 S = some o) (hM : zH D y A0 s H locs S) (hl : lv_has ls 5 [(0, .ref (zh y x0)), (3, .int x3), (4, .int x4)]) : W p l e ({ frames := 0, cells := 0, slots := 0, locals := 0 } : Room) s m args below meth c H locs 0 0 Q (F0 m 57 ls []) := by
  obtain ⟨hx, hb, hml, hown, hts⟩ := id X
  unfold f_X0_pawnAttacks_57 at hf
  refine lv_iload hx hb dX0_pawnAttacks_57 (lv_at hl 2 rfl) ?_
  refine lv_bipush (v := (7 : Int32)) hx hb dX0_pawnAttacks_59 (by decide) ?_
  refine lv_iand hx hb dX0_pawnAttacks_61 ?_
  obtain ⟨v1, ev, hf⟩ := m_bndE hf
  refine m_top ev ?_
  clear ev
  refine lv_bipush (v := (7 : Int32)) hx hb dX0_pawnAttacks_62 (by decide) ?_
  refine lv_icmp_ge (tgt := 84) hx hb dX0_pawnAttacks_64 (by decide) (fun cc1 => ?_) (fun cc1 => ?_)
  · replace hf := m_ifT hf cc1
    exact w_X0_pawnAttacks_84 X hret hf hM (lv_sub hl [] rfl)
  · replace hf := m_ifF hf cc1
    refine lv_aload_n hx hb dX0_pawnAttacks_67 rfl (lv_at hl 0 rfl) ?_
    obtain ⟨ca, hf⟩ := m_chkE hf
    replace ca := z_in hM (by decide) ca
    refine z_get (k := 0) (j := 0) (C := RX0) (T := TX0) (N := 7) (fl := zf_0) (v := va_rf ((zP S 0 x0).map (zh y))) X hw_X0_pawnAttacks_0 hM rfl zc_0 ca (by decide) fl_X0_pawnAttacks_0_0 rfl dX0_pawnAttacks_68 ?_
    clear ca
    obtain ⟨b2, hb9, hf⟩ := m_calE hf
    refine z_topr hb9 ?_
    clear hb9
    refine lv_iload hx hb dX0_pawnAttacks_71 (lv_at hl 2 rfl) ?_
    refine lv_iconst (v := (1 : Int32)) hx hb dX0_pawnAttacks_73 (by decide) ?_
    refine lv_iadd hx hb dX0_pawnAttacks_74 ?_
    obtain ⟨v3, ev, hf⟩ := m_bndE hf
    refine m_top ev ?_
    clear ev
    obtain ⟨ca, hf⟩ := m_chkE hf
    replace ca := z_in hM (by decide) ca
    obtain ⟨cd, hf⟩ := m_chkE hf
    refine z_iald X hM ca cd dX0_pawnAttacks_75 ?_
    clear ca cd
    obtain ⟨v4, ev, hf⟩ := m_bndE hf
    refine m_top ev ?_
    clear ev
    refine lv_iload_n hx hb dX0_pawnAttacks_76 rfl (lv_at hl 1 rfl) ?_
    refine lv_icmp_ne (tgt := 84) hx hb dX0_pawnAttacks_77 (by decide) (fun cc1 => ?_) (fun cc1 => ?_)
    · replace hf := m_ifF hf cc1
      exact w_X0_pawnAttacks_84 X hret hf hM (lv_sub hl [] rfl)
    · replace hf := m_ifT hf cc1
      exact w_X0_pawnAttacks_80 X hret hf hM (lv_sub hl [] rfl)
noncomputable def f_X0_pawnAttacks_19 (x0 : Nat) (x3 : Int32) (t0 : Int32) (t1 : Int32) (S : ZS) : Option (Int32 × ZS) :=
  m_bnd (t1 + t0) (fun v1 =>
  m_if (v1 < 0) (
  f_X0_pawnAttacks_34  S
  ) (
  m_if (v1 < (64 : Int32)) (
  m_bnd (v1 &&& (7 : Int32)) (fun v2 =>
  m_if (v2 ≤ 0) (
  f_X0_pawnAttacks_57 x0 x3 v1 S
  ) (
  m_chk (zK S x0 = 0) (
  m_cal (zP S 0 x0) (fun b3 =>
  m_bnd (v1 - (1 : Int32)) (fun v4 =>
  m_chk (zK S b3 = 14) (
  m_chk (¬ (v4 < 0 ∨ zN S b3 ≤ (v4).toNatClampNeg)) (
  m_bnd (zA S b3 (v4).toNatClampNeg) (fun v5 =>
  m_if (v5 = x3) (
  f_X0_pawnAttacks_80  S
  ) (
  f_X0_pawnAttacks_57 x0 x3 v1 S
  )))))))
  ))
  ) (
  f_X0_pawnAttacks_34  S
  )
  ))

set_option maxRecDepth 100000 in
set_option maxHeartbeats 4000000 in
theorem w_X0_pawnAttacks_19 {p : Program} {l : Launch} {e : Env} {s : State} {m : MethodId} {args : Array Value} {below : List Frame} {meth : Method} {c : Code} {Q : State → Prop} {D : va_G} {y : Nat → ClassId} {A0 : Nat → Prop} {o : Int32 × ZS} (X : CallFix p m c cX0_pawnAttacks 5 s args wsX0_pawnAttacks RX0) (hret : zRi p l e ({ frames := 0, cells := 0, slots := 0, locals := 0 } : Room) s m args below meth c Q cX0_pawnAttacks D y A0 .boolean o) {x0 : Nat} {x3 : Int32} {t0 : Int32} {t1 : Int32} {S : ZS} {H : Heap} {locs : List Loc} {ls : Array Slot} (hf : f_X0_pawnAttacks_19 x0 x3 t0 t1 S = some o) (hM : zH D y A0 s H locs S) (hl : lv_has ls 5 [(0, .ref (zh y x0)), (3, .int x3)]) : W p l e ({ frames := 0, cells := 0, slots := 0, locals := 0 } : Room) s m args below meth c H locs 0 0 Q (F0 m 19 ls [.int t0, .int t1]) := by
  obtain ⟨hx, hb, hml, hown, hts⟩ := id X
  unfold f_X0_pawnAttacks_19 at hf
  refine lv_iadd hx hb dX0_pawnAttacks_19 ?_
  obtain ⟨v1, ev, hf⟩ := m_bndE hf
  refine m_top ev ?_
  clear ev
  refine lv_istore (lv' := [(4, .int v1), (0, .ref (zh y x0)), (3, .int x3)]) hx hb dX0_pawnAttacks_20 hl (by decide) rfl (fun ls hl => ?_)
  refine lv_iload hx hb dX0_pawnAttacks_22 (lv_at hl 0 rfl) ?_
  refine lv_if_lt (tgt := 34) hx hb dX0_pawnAttacks_24 (by decide) (fun cc1 => ?_) (fun cc1 => ?_)
  · replace hf := m_ifT hf cc1
    exact w_X0_pawnAttacks_34 X hret hf hM (lv_sub hl [] rfl)
  · replace hf := m_ifF hf cc1
    refine lv_iload hx hb dX0_pawnAttacks_27 (lv_at hl 0 rfl) ?_
    refine lv_bipush (v := (64 : Int32)) hx hb dX0_pawnAttacks_29 (by decide) ?_
    refine lv_icmp_lt (tgt := 36) hx hb dX0_pawnAttacks_31 (by decide) (fun cc1 => ?_) (fun cc1 => ?_)
    · replace hf := m_ifT hf cc1
      refine lv_iload hx hb dX0_pawnAttacks_36 (lv_at hl 0 rfl) ?_
      refine lv_bipush (v := (7 : Int32)) hx hb dX0_pawnAttacks_38 (by decide) ?_
      refine lv_iand hx hb dX0_pawnAttacks_40 ?_
      obtain ⟨v2, ev, hf⟩ := m_bndE hf
      refine m_top ev ?_
      clear ev
      refine lv_if_le (tgt := 57) hx hb dX0_pawnAttacks_41 (by decide) (fun cc1 => ?_) (fun cc1 => ?_)
      · replace hf := m_ifT hf cc1
        exact w_X0_pawnAttacks_57 (x0 := x0) (x3 := x3) (x4 := v1) X hret hf hM (lv_sub hl [1, 2, 0] rfl)
      · replace hf := m_ifF hf cc1
        refine lv_aload_n hx hb dX0_pawnAttacks_44 rfl (lv_at hl 1 rfl) ?_
        obtain ⟨ca, hf⟩ := m_chkE hf
        replace ca := z_in hM (by decide) ca
        refine z_get (k := 0) (j := 0) (C := RX0) (T := TX0) (N := 7) (fl := zf_0) (v := va_rf ((zP S 0 x0).map (zh y))) X hw_X0_pawnAttacks_0 hM rfl zc_0 ca (by decide) fl_X0_pawnAttacks_0_0 rfl dX0_pawnAttacks_45 ?_
        clear ca
        obtain ⟨b3, hb9, hf⟩ := m_calE hf
        refine z_topr hb9 ?_
        clear hb9
        refine lv_iload hx hb dX0_pawnAttacks_48 (lv_at hl 0 rfl) ?_
        refine lv_iconst (v := (1 : Int32)) hx hb dX0_pawnAttacks_50 (by decide) ?_
        refine lv_isub hx hb dX0_pawnAttacks_51 ?_
        obtain ⟨v4, ev, hf⟩ := m_bndE hf
        refine m_top ev ?_
        clear ev
        obtain ⟨ca, hf⟩ := m_chkE hf
        replace ca := z_in hM (by decide) ca
        obtain ⟨cd, hf⟩ := m_chkE hf
        refine z_iald X hM ca cd dX0_pawnAttacks_52 ?_
        clear ca cd
        obtain ⟨v5, ev, hf⟩ := m_bndE hf
        refine m_top ev ?_
        clear ev
        refine lv_iload_n hx hb dX0_pawnAttacks_53 rfl (lv_at hl 2 rfl) ?_
        refine lv_icmp_eq (tgt := 80) hx hb dX0_pawnAttacks_54 (by decide) (fun cc1 => ?_) (fun cc1 => ?_)
        · replace hf := m_ifT hf cc1
          exact w_X0_pawnAttacks_80 X hret hf hM (lv_sub hl [] rfl)
        · replace hf := m_ifF hf cc1
          exact w_X0_pawnAttacks_57 (x0 := x0) (x3 := x3) (x4 := v1) X hret hf hM (lv_sub hl [1, 2, 0] rfl)
    · replace hf := m_ifF hf cc1
      exact w_X0_pawnAttacks_34 X hret hf hM (lv_sub hl [] rfl)
noncomputable def f_X0_pawnAttacks_0 (x0 : Nat) (x1 : Int32) (x2 : Int32) (S : ZS) : Option (Int32 × ZS) :=
  m_bnd ((8 : Int32) * x2) (fun v1 =>
  m_bnd ((1 : Int32) + v1) (fun v2 =>
  m_if (x2 = 0) (
  f_X0_pawnAttacks_19 x0 v2 (-8 : Int32) x1 S
  ) (
  f_X0_pawnAttacks_19 x0 v2 (8 : Int32) x1 S
  )))

set_option maxRecDepth 100000 in
set_option maxHeartbeats 4000000 in
theorem w_X0_pawnAttacks_0 {p : Program} {l : Launch} {e : Env} {s : State} {m : MethodId} {args : Array Value} {below : List Frame} {meth : Method} {c : Code} {Q : State → Prop} {D : va_G} {y : Nat → ClassId} {A0 : Nat → Prop} {o : Int32 × ZS} (X : CallFix p m c cX0_pawnAttacks 5 s args wsX0_pawnAttacks RX0) (hret : zRi p l e ({ frames := 0, cells := 0, slots := 0, locals := 0 } : Room) s m args below meth c Q cX0_pawnAttacks D y A0 .boolean o) {x0 : Nat} {x1 : Int32} {x2 : Int32} {S : ZS} {H : Heap} {locs : List Loc} {ls : Array Slot} (hf : f_X0_pawnAttacks_0 x0 x1 x2 S = some o) (hM : zH D y A0 s H locs S) (hl : lv_has ls 5 [(0, .ref (zh y x0)), (1, .int x1), (2, .int x2)]) : W p l e ({ frames := 0, cells := 0, slots := 0, locals := 0 } : Room) s m args below meth c H locs 0 0 Q (F0 m 0 ls []) := by
  obtain ⟨hx, hb, hml, hown, hts⟩ := id X
  unfold f_X0_pawnAttacks_0 at hf
  refine lv_iconst (v := (1 : Int32)) hx hb dX0_pawnAttacks_0 (by decide) ?_
  refine lv_bipush (v := (8 : Int32)) hx hb dX0_pawnAttacks_1 (by decide) ?_
  refine lv_iload_n hx hb dX0_pawnAttacks_3 rfl (lv_at hl 2 rfl) ?_
  refine lv_imul hx hb dX0_pawnAttacks_4 ?_
  obtain ⟨v1, ev, hf⟩ := m_bndE hf
  refine m_top ev ?_
  clear ev
  refine lv_iadd hx hb dX0_pawnAttacks_5 ?_
  obtain ⟨v2, ev, hf⟩ := m_bndE hf
  refine m_top ev ?_
  clear ev
  refine lv_istore_n (lv' := [(3, .int v2), (0, .ref (zh y x0)), (1, .int x1), (2, .int x2)]) hx hb dX0_pawnAttacks_6 rfl hl (by decide) rfl (fun ls hl => ?_)
  refine lv_iload_n hx hb dX0_pawnAttacks_7 rfl (lv_at hl 2 rfl) ?_
  refine lv_iload_n hx hb dX0_pawnAttacks_8 rfl (lv_at hl 3 rfl) ?_
  refine lv_if_ne (tgt := 17) hx hb dX0_pawnAttacks_9 (by decide) (fun cc1 => ?_) (fun cc1 => ?_)
  · replace hf := m_ifF hf cc1
    refine lv_bipush (v := (8 : Int32)) hx hb dX0_pawnAttacks_17 (by decide) ?_
    exact w_X0_pawnAttacks_19 (x0 := x0) (x3 := v2) (t0 := (8 : Int32)) (t1 := x1) X hret hf hM (lv_sub hl [1, 0] rfl)
  · replace hf := m_ifT hf cc1
    refine lv_bipush (v := (-8 : Int32)) hx hb dX0_pawnAttacks_12 (by decide) ?_
    refine lv_goto (tgt := 19) hx hb dX0_pawnAttacks_14 (by decide) ?_
    exact w_X0_pawnAttacks_19 (x0 := x0) (x3 := v2) (t0 := (-8 : Int32)) (t1 := x1) X hret hf hM (lv_sub hl [1, 0] rfl)
noncomputable def f_X0_pawnAttacks (x0 : Nat) (x1 : Int32) (x2 : Int32) (S : ZS) : Option (Int32 × ZS) := f_X0_pawnAttacks_0 x0 x1 x2 S
theorem c_X0_pawnAttacks {l : Launch} {D : va_G} {y : Nat → ClassId} {x0 : Nat} {x1 : Int32} {x2 : Int32} {S : ZS} {o : Int32 × ZS} (hf : f_X0_pawnAttacks x0 x1 x2 S = some o) : zMi l yX0_pawnAttacks wsX0_pawnAttacks ({ frames := 0, cells := 0, slots := 0, locals := 0 } : Room) [.ref (zh y x0), .int x1, .int x2] D y S o :=
  z_entryI (own := RX0) (cc := cX0_pawnAttacks) (maxL := 5) (by decide) rfl rfl (Nat.le_of_ble_eq_true rfl) (fun p e s m args below meth c A0 Q H locs ls X hret hM hl => w_X0_pawnAttacks_0 X hret hf hM (lv_sub hl [0, 1, 2] rfl))
theorem hd_X0_rightsOf : yX0_rightsOf.cls ≠ "java/lang/invoke/MethodHandle" ∧ yX0_rightsOf.cls ≠ "java/lang/invoke/VarHandle" ∧ (parseMethodDescriptor yX0_rightsOf.desc).map (fun d => d.parameters.length) = some 1 := by decide +kernel
noncomputable def f_X0_rightsOf_0 (x0 : Int32) (S : ZS) : Option (Int32 × ZS) :=
  m_if (x0 = (0 : Int32)) (
  some ((2 : Int32), S)
  ) (
  m_if (x0 = (4 : Int32)) (
  some ((3 : Int32), S)
  ) (
  m_if (x0 = (7 : Int32)) (
  some ((1 : Int32), S)
  ) (
  m_if (x0 = (56 : Int32)) (
  some ((8 : Int32), S)
  ) (
  m_if (x0 = (60 : Int32)) (
  some ((12 : Int32), S)
  ) (
  m_if (x0 = (63 : Int32)) (
  some ((4 : Int32), S)
  ) (
  some ((0 : Int32), S)
  ))))))

set_option maxRecDepth 100000 in
set_option maxHeartbeats 4000000 in
theorem w_X0_rightsOf_0 {p : Program} {l : Launch} {e : Env} {s : State} {m : MethodId} {args : Array Value} {below : List Frame} {meth : Method} {c : Code} {Q : State → Prop} {D : va_G} {y : Nat → ClassId} {A0 : Nat → Prop} {o : Int32 × ZS} (X : CallFix p m c cX0_rightsOf 1 s args wsX0_rightsOf RX0) (hret : zRi p l e ({ frames := 0, cells := 0, slots := 0, locals := 0 } : Room) s m args below meth c Q cX0_rightsOf D y A0 .int o) {x0 : Int32} {S : ZS} {H : Heap} {locs : List Loc} {ls : Array Slot} (hf : f_X0_rightsOf_0 x0 S = some o) (hM : zH D y A0 s H locs S) (hl : lv_has ls 1 [(0, .int x0)]) : W p l e ({ frames := 0, cells := 0, slots := 0, locals := 0 } : Room) s m args below meth c H locs 0 0 Q (F0 m 0 ls []) := by
  obtain ⟨hx, hb, hml, hown, hts⟩ := id X
  unfold f_X0_rightsOf_0 at hf
  refine lv_iload_n hx hb dX0_rightsOf_0 rfl (lv_at hl 0 rfl) ?_
  by_cases ck0 : x0 = (0 : Int32)
  · replace hf := m_ifT hf ck0
    refine lv_lookup (off := 59) (tgt := 60) hx hb dX0_rightsOf_1 (by decide) (by rw [ck0]; decide) (by decide) ?_
    refine lv_iconst (v := (2 : Int32)) hx hb dX0_rightsOf_60 (by decide) ?_
    cases hf
    exact hret H locs _ ls hM rfl dX0_rightsOf_61
  · replace hf := m_ifF hf ck0
    by_cases ck1 : x0 = (4 : Int32)
    · replace hf := m_ifT hf ck1
      refine lv_lookup (off := 61) (tgt := 62) hx hb dX0_rightsOf_1 (by decide) (by rw [ck1]; decide) (by decide) ?_
      refine lv_iconst (v := (3 : Int32)) hx hb dX0_rightsOf_62 (by decide) ?_
      cases hf
      exact hret H locs _ ls hM rfl dX0_rightsOf_63
    · replace hf := m_ifF hf ck1
      by_cases ck2 : x0 = (7 : Int32)
      · replace hf := m_ifT hf ck2
        refine lv_lookup (off := 63) (tgt := 64) hx hb dX0_rightsOf_1 (by decide) (by rw [ck2]; decide) (by decide) ?_
        refine lv_iconst (v := (1 : Int32)) hx hb dX0_rightsOf_64 (by decide) ?_
        cases hf
        exact hret H locs _ ls hM rfl dX0_rightsOf_65
      · replace hf := m_ifF hf ck2
        by_cases ck3 : x0 = (56 : Int32)
        · replace hf := m_ifT hf ck3
          refine lv_lookup (off := 65) (tgt := 66) hx hb dX0_rightsOf_1 (by decide) (by rw [ck3]; decide) (by decide) ?_
          refine lv_bipush (v := (8 : Int32)) hx hb dX0_rightsOf_66 (by decide) ?_
          cases hf
          exact hret H locs _ ls hM rfl dX0_rightsOf_68
        · replace hf := m_ifF hf ck3
          by_cases ck4 : x0 = (60 : Int32)
          · replace hf := m_ifT hf ck4
            refine lv_lookup (off := 68) (tgt := 69) hx hb dX0_rightsOf_1 (by decide) (by rw [ck4]; decide) (by decide) ?_
            refine lv_bipush (v := (12 : Int32)) hx hb dX0_rightsOf_69 (by decide) ?_
            cases hf
            exact hret H locs _ ls hM rfl dX0_rightsOf_71
          · replace hf := m_ifF hf ck4
            by_cases ck5 : x0 = (63 : Int32)
            · replace hf := m_ifT hf ck5
              refine lv_lookup (off := 71) (tgt := 72) hx hb dX0_rightsOf_1 (by decide) (by rw [ck5]; decide) (by decide) ?_
              refine lv_iconst (v := (4 : Int32)) hx hb dX0_rightsOf_72 (by decide) ?_
              cases hf
              exact hret H locs _ ls hM rfl dX0_rightsOf_73
            · replace hf := m_ifF hf ck5
              refine lv_lookup (off := 73) (tgt := 74) hx hb dX0_rightsOf_1 (by decide) ((lv_osw ck0 (by decide)).trans ((lv_osw ck1 (by decide)).trans ((lv_osw ck2 (by decide)).trans ((lv_osw ck3 (by decide)).trans ((lv_osw ck4 (by decide)).trans ((lv_osw ck5 (by decide)).trans rfl)))))) (by decide) ?_
              refine lv_iconst (v := (0 : Int32)) hx hb dX0_rightsOf_74 (by decide) ?_
              cases hf
              exact hret H locs _ ls hM rfl dX0_rightsOf_75
noncomputable def f_X0_rightsOf (x0 : Int32) (S : ZS) : Option (Int32 × ZS) := f_X0_rightsOf_0 x0 S
theorem c_X0_rightsOf {l : Launch} {D : va_G} {y : Nat → ClassId} {x0 : Int32} {S : ZS} {o : Int32 × ZS} (hf : f_X0_rightsOf x0 S = some o) : zMi l yX0_rightsOf wsX0_rightsOf ({ frames := 0, cells := 0, slots := 0, locals := 0 } : Room) [.int x0] D y S o :=
  z_entryI (own := RX0) (cc := cX0_rightsOf) (maxL := 1) (by decide) rfl rfl (Nat.le_of_ble_eq_true rfl) (fun p e s m args below meth c A0 Q H locs ls X hret hM hl => w_X0_rightsOf_0 X hret hf hM (lv_sub hl [0] rfl))
theorem hd_X0_play : yX0_play.cls = RX0 ∧ yX0_play.cls ≠ "java/lang/invoke/MethodHandle" ∧ yX0_play.cls ≠ "java/lang/invoke/VarHandle" ∧ (parseMethodDescriptor yX0_play.desc).map (fun d => d.parameters.length) = some 1 := by decide +kernel
theorem fl_X0_play_0_0 : Cond.fieldLink RX0 9 "MoveTexts$Board" "men" "[I" ∈ wsX0_play := by decide +kernel
theorem fl_X0_play_0_3 : Cond.fieldLink RX0 22 "MoveTexts$Board" "side" "I" ∈ wsX0_play := by decide +kernel
theorem fl_X0_play_0_4 : Cond.fieldLink RX0 25 "MoveTexts$Board" "rights" "I" ∈ wsX0_play := by decide +kernel
theorem fl_X0_play_0_5 : Cond.fieldLink RX0 28 "MoveTexts$Board" "passed" "I" ∈ wsX0_play := by decide +kernel
theorem fl_X0_play_0_6 : Cond.fieldLink RX0 31 "MoveTexts$Board" "number" "I" ∈ wsX0_play := by decide +kernel
theorem hw_X0_play_0 : ∀ w ∈ wsX00, w ∈ wsX0_play := by decide +kernel
noncomputable def f_X0_play_227 (x0 : Nat) (S : ZS) : Option (Int32 × ZS) :=
  m_chk (zK S x0 = 0) (
  m_chk (zK S x0 = 0) (
  m_bnd ((zI S 6 x0) + (zI S 3 x0)) (fun v1 =>
  m_chk (zK S x0 = 0) (
  m_bnd (zsI S 6 x0 v1) (fun S2 =>
  m_chk (zK S2 x0 = 0) (
  m_bnd ((1 : Int32) - (zI S2 3 x0)) (fun v3 =>
  m_chk (zK S2 x0 = 0) (
  m_bnd (zsI S2 3 x0 v3) (fun S4 =>
  some (0, S4))))))))))

set_option maxRecDepth 100000 in
set_option maxHeartbeats 4000000 in
theorem w_X0_play_227 {p : Program} {l : Launch} {e : Env} {s : State} {m : MethodId} {args : Array Value} {below : List Frame} {meth : Method} {c : Code} {Q : State → Prop} {D : va_G} {y : Nat → ClassId} {A0 : Nat → Prop} {o : Int32 × ZS} (X : CallFix p m c cX0_play 7 s args wsX0_play RX0) (hret : zRv p l e ({ frames := 1, cells := 0, slots := 0, locals := 24 } : Room) s m args below meth c Q cX0_play D y A0 o) {x0 : Nat} {S : ZS} {H : Heap} {locs : List Loc} {ls : Array Slot} (hf : f_X0_play_227 x0 S = some o) (hM : zH D y A0 s H locs S) (hl : lv_has ls 7 [(0, .ref (zh y x0))]) : W p l e ({ frames := 1, cells := 0, slots := 0, locals := 24 } : Room) s m args below meth c H locs 0 0 Q (F0 m 227 ls []) := by
  obtain ⟨hx, hb, hml, hown, hts⟩ := id X
  unfold f_X0_play_227 at hf
  refine lv_aload_n hx hb dX0_play_227 rfl (lv_at hl 0 rfl) ?_
  refine lv_dup hx hb dX0_play_228 rfl ?_
  obtain ⟨ca, hf⟩ := m_chkE hf
  replace ca := z_in hM (by decide) ca
  refine z_get (k := 0) (j := 6) (C := RX0) (T := TX0) (N := 7) (fl := zf_0) (v := .int (zI S 6 x0)) X hw_X0_play_0 hM rfl zc_0 ca (by decide) fl_X0_play_0_6 rfl dX0_play_229 ?_
  clear ca
  refine lv_aload_n hx hb dX0_play_232 rfl (lv_at hl 0 rfl) ?_
  obtain ⟨ca, hf⟩ := m_chkE hf
  replace ca := z_in hM (by decide) ca
  refine z_get (k := 0) (j := 3) (C := RX0) (T := TX0) (N := 7) (fl := zf_0) (v := .int (zI S 3 x0)) X hw_X0_play_0 hM rfl zc_0 ca (by decide) fl_X0_play_0_3 rfl dX0_play_233 ?_
  clear ca
  refine lv_iadd hx hb dX0_play_236 ?_
  obtain ⟨v1, ev, hf⟩ := m_bndE hf
  refine m_top ev ?_
  clear ev
  obtain ⟨ca, hf⟩ := m_chkE hf
  replace ca := z_in hM (by decide) ca
  refine z_putI (k := 0) (j := 6) (C := RX0) (T := TX0) (N := 7) (fl := zf_0) (ty := .int) X hw_X0_play_0 tyX0_ok nmX0 hM rfl zc_0 ca (by decide) fl_X0_play_0_6 rfl (tyX0_ok 6 (by decide)) rfl rfl zi_0_6 (Nat.le_of_ble_eq_true rfl) dX0_play_237 (fun H locs hM => ?_)
  clear ca
  obtain ⟨S2, ev, hf⟩ := m_bndE hf
  replace hM := z_hS hM ev
  clear ev
  refine lv_aload_n hx hb dX0_play_240 rfl (lv_at hl 0 rfl) ?_
  refine lv_iconst (v := (1 : Int32)) hx hb dX0_play_241 (by decide) ?_
  refine lv_aload_n hx hb dX0_play_242 rfl (lv_at hl 0 rfl) ?_
  obtain ⟨ca, hf⟩ := m_chkE hf
  replace ca := z_in hM (by decide) ca
  refine z_get (k := 0) (j := 3) (C := RX0) (T := TX0) (N := 7) (fl := zf_0) (v := .int (zI S2 3 x0)) X hw_X0_play_0 hM rfl zc_0 ca (by decide) fl_X0_play_0_3 rfl dX0_play_243 ?_
  clear ca
  refine lv_isub hx hb dX0_play_246 ?_
  obtain ⟨v3, ev, hf⟩ := m_bndE hf
  refine m_top ev ?_
  clear ev
  obtain ⟨ca, hf⟩ := m_chkE hf
  replace ca := z_in hM (by decide) ca
  refine z_putI (k := 0) (j := 3) (C := RX0) (T := TX0) (N := 7) (fl := zf_0) (ty := .int) X hw_X0_play_0 tyX0_ok nmX0 hM rfl zc_0 ca (by decide) fl_X0_play_0_3 rfl (tyX0_ok 3 (by decide)) rfl rfl zi_0_3 (Nat.le_of_ble_eq_true rfl) dX0_play_247 (fun H locs hM => ?_)
  clear ca
  obtain ⟨S4, ev, hf⟩ := m_bndE hf
  replace hM := z_hS hM ev
  clear ev
  cases hf
  exact hret H locs _ ls hM dX0_play_250
noncomputable def f_X0_play_200 (x0 : Nat) (x2 : Int32) (x3 : Int32) (S : ZS) : Option (Int32 × ZS) :=
  m_bnd (x2 + x3) (fun v1 =>
  m_bnd (v1 / (2 : Int32)) (fun v2 =>
  m_chk (zK S x0 = 0) (
  m_bnd ((1 : Int32) - (zI S 3 x0)) (fun v3 =>
  m_chk (zK S x0 = 0) (
  m_cal (f_X0_pawnAttacks x0 v2 v3 S) (fun o4 =>
  m_if (o4.1 = 0) (
  f_X0_play_227 x0 o4.2
  ) (
  m_bnd (x2 + x3) (fun v5 =>
  m_bnd (v5 / (2 : Int32)) (fun v6 =>
  m_chk (zK o4.2 x0 = 0) (
  m_bnd (zsI o4.2 5 x0 v6) (fun S7 =>
  f_X0_play_227 x0 S7))))
  )))))))

set_option maxRecDepth 100000 in
set_option maxHeartbeats 4000000 in
theorem w_X0_play_200 {p : Program} {l : Launch} {e : Env} {s : State} {m : MethodId} {args : Array Value} {below : List Frame} {meth : Method} {c : Code} {Q : State → Prop} {D : va_G} {y : Nat → ClassId} {A0 : Nat → Prop} {o : Int32 × ZS} (X : CallFix p m c cX0_play 7 s args wsX0_play RX0) (hret : zRv p l e ({ frames := 1, cells := 0, slots := 0, locals := 24 } : Room) s m args below meth c Q cX0_play D y A0 o) {x0 : Nat} {x2 : Int32} {x3 : Int32} {S : ZS} {H : Heap} {locs : List Loc} {ls : Array Slot} (hf : f_X0_play_200 x0 x2 x3 S = some o) (hM : zH D y A0 s H locs S) (hl : lv_has ls 7 [(0, .ref (zh y x0)), (2, .int x2), (3, .int x3)]) : W p l e ({ frames := 1, cells := 0, slots := 0, locals := 24 } : Room) s m args below meth c H locs 0 0 Q (F0 m 200 ls []) := by
  obtain ⟨hx, hb, hml, hown, hts⟩ := id X
  unfold f_X0_play_200 at hf
  refine lv_aload_n hx hb dX0_play_200 rfl (lv_at hl 0 rfl) ?_
  refine lv_iload_n hx hb dX0_play_201 rfl (lv_at hl 1 rfl) ?_
  refine lv_iload_n hx hb dX0_play_202 rfl (lv_at hl 2 rfl) ?_
  refine lv_iadd hx hb dX0_play_203 ?_
  obtain ⟨v1, ev, hf⟩ := m_bndE hf
  refine m_top ev ?_
  clear ev
  refine lv_iconst (v := (2 : Int32)) hx hb dX0_play_204 (by decide) ?_
  refine lv_idiv hx hb dX0_play_205 (by decide) ?_
  obtain ⟨v2, ev, hf⟩ := m_bndE hf
  refine m_top ev ?_
  clear ev
  refine lv_iconst (v := (1 : Int32)) hx hb dX0_play_206 (by decide) ?_
  refine lv_aload_n hx hb dX0_play_207 rfl (lv_at hl 0 rfl) ?_
  obtain ⟨ca, hf⟩ := m_chkE hf
  replace ca := z_in hM (by decide) ca
  refine z_get (k := 0) (j := 3) (C := RX0) (T := TX0) (N := 7) (fl := zf_0) (v := .int (zI S 3 x0)) X hw_X0_play_0 hM rfl zc_0 ca (by decide) fl_X0_play_0_3 rfl dX0_play_208 ?_
  clear ca
  refine lv_isub hx hb dX0_play_211 ?_
  obtain ⟨v3, ev, hf⟩ := m_bndE hf
  refine m_top ev ?_
  clear ev
  obtain ⟨ca, hf⟩ := m_chkE hf
  replace ca := z_in hM (by decide) ca
  obtain ⟨o4, ho, hf⟩ := m_calE hf
  refine z_callVi (k := 0) (C := RX0) (T := TX0) (N := 7) (fl := zf_0) X hM rfl zc_0 ca (c_X0_pawnAttacks ho) gX0_play_X0_pawnAttacks rfl ⟨rfl, rfl⟩ hd_X0_pawnAttacks ⟨Nat.le_of_ble_eq_true rfl, Nat.le_of_ble_eq_true rfl⟩ rfl hl.1 rfl (Nat.le_of_ble_eq_true rfl) dX0_play_212 (fun H locs hM => ?_)
  clear ho
  refine lv_if_eq (tgt := 227) hx hb dX0_play_215 (by decide) (fun cc1 => ?_) (fun cc1 => ?_)
  · replace hf := m_ifT hf cc1
    exact w_X0_play_227 (x0 := x0) X hret hf hM (lv_sub hl [0] rfl)
  · replace hf := m_ifF hf cc1
    refine lv_aload_n hx hb dX0_play_218 rfl (lv_at hl 0 rfl) ?_
    refine lv_iload_n hx hb dX0_play_219 rfl (lv_at hl 1 rfl) ?_
    refine lv_iload_n hx hb dX0_play_220 rfl (lv_at hl 2 rfl) ?_
    refine lv_iadd hx hb dX0_play_221 ?_
    obtain ⟨v5, ev, hf⟩ := m_bndE hf
    refine m_top ev ?_
    clear ev
    refine lv_iconst (v := (2 : Int32)) hx hb dX0_play_222 (by decide) ?_
    refine lv_idiv hx hb dX0_play_223 (by decide) ?_
    obtain ⟨v6, ev, hf⟩ := m_bndE hf
    refine m_top ev ?_
    clear ev
    obtain ⟨ca, hf⟩ := m_chkE hf
    replace ca := z_in hM (by decide) ca
    refine z_putI (k := 0) (j := 5) (C := RX0) (T := TX0) (N := 7) (fl := zf_0) (ty := .int) X hw_X0_play_0 tyX0_ok nmX0 hM rfl zc_0 ca (by decide) fl_X0_play_0_5 rfl (tyX0_ok 5 (by decide)) rfl rfl zi_0_5 (Nat.le_of_ble_eq_true rfl) dX0_play_224 (fun H locs hM => ?_)
    clear ca
    obtain ⟨S7, ev, hf⟩ := m_bndE hf
    replace hM := z_hS hM ev
    clear ev
    exact w_X0_play_227 (x0 := x0) X hret hf hM (lv_sub hl [0] rfl)
noncomputable def f_X0_play_144 (x0 : Nat) (x2 : Int32) (x3 : Int32) (x5 : Int32) (t0 : Int32) (t1 : Int32) (t2 : Nat) (S : ZS) : Option (Int32 × ZS) :=
  m_chk (zK S t2 = 0) (
  m_cal (f_X0_put t2 t1 t0 S) (fun o1 =>
  m_chk (zK o1.2 x0 = 0) (
  m_cal (zP o1.2 0 x0) (fun b2 =>
  m_chk (zK o1.2 b2 = 14) (
  m_chk (¬ (x2 < 0 ∨ zN o1.2 b2 ≤ (x2).toNatClampNeg)) (
  m_bnd (zsA o1.2 b2 (x2).toNatClampNeg (0 : Int32)) (fun S3 =>
  m_chk (zK S3 x0 = 0) (
  m_cal (f_X0_rightsOf x2 S3) (fun o4 =>
  m_cal (f_X0_rightsOf x3 o4.2) (fun o5 =>
  m_bnd (o4.1 ||| o5.1) (fun v6 =>
  m_bnd (v6 ^^^ (-1 : Int32)) (fun v7 =>
  m_bnd ((zI S3 4 x0) &&& v7) (fun v8 =>
  m_chk (zK o5.2 x0 = 0) (
  m_bnd (zsI o5.2 4 x0 v8) (fun S9 =>
  m_chk (zK S9 x0 = 0) (
  m_bnd (zsI S9 5 x0 (-1 : Int32)) (fun S10 =>
  m_if (x5 = 0) (
  f_X0_play_227 x0 S10
  ) (
  m_bnd (x2 + (16 : Int32)) (fun v11 =>
  m_if (x3 = v11) (
  f_X0_play_200 x0 x2 x3 S10
  ) (
  m_bnd (x2 - (16 : Int32)) (fun v12 =>
  m_if (x3 = v12) (
  f_X0_play_200 x0 x2 x3 S10
  ) (
  f_X0_play_227 x0 S10
  ))
  ))
  ))))))))))))))))))

set_option maxRecDepth 100000 in
set_option maxHeartbeats 4000000 in
theorem w_X0_play_144 {p : Program} {l : Launch} {e : Env} {s : State} {m : MethodId} {args : Array Value} {below : List Frame} {meth : Method} {c : Code} {Q : State → Prop} {D : va_G} {y : Nat → ClassId} {A0 : Nat → Prop} {o : Int32 × ZS} (X : CallFix p m c cX0_play 7 s args wsX0_play RX0) (hret : zRv p l e ({ frames := 1, cells := 0, slots := 0, locals := 24 } : Room) s m args below meth c Q cX0_play D y A0 o) {x0 : Nat} {x2 : Int32} {x3 : Int32} {x5 : Int32} {t0 : Int32} {t1 : Int32} {t2 : Nat} {S : ZS} {H : Heap} {locs : List Loc} {ls : Array Slot} (hf : f_X0_play_144 x0 x2 x3 x5 t0 t1 t2 S = some o) (hM : zH D y A0 s H locs S) (hl : lv_has ls 7 [(0, .ref (zh y x0)), (2, .int x2), (3, .int x3), (5, .int x5)]) : W p l e ({ frames := 1, cells := 0, slots := 0, locals := 24 } : Room) s m args below meth c H locs 0 0 Q (F0 m 144 ls [.int t0, .int t1, .ref (zh y t2)]) := by
  obtain ⟨hx, hb, hml, hown, hts⟩ := id X
  unfold f_X0_play_144 at hf
  obtain ⟨ca, hf⟩ := m_chkE hf
  replace ca := z_in hM (by decide) ca
  obtain ⟨o1, ho, hf⟩ := m_calE hf
  refine z_callVv (k := 0) (C := RX0) (T := TX0) (N := 7) (fl := zf_0) X hM rfl zc_0 ca (c_X0_put ho) gX0_play_X0_put rfl ⟨rfl, rfl⟩ hd_X0_put ⟨Nat.le_of_ble_eq_true rfl, Nat.le_of_ble_eq_true rfl⟩ rfl hl.1 rfl (Nat.le_of_ble_eq_true rfl) dX0_play_144 (fun H locs hM => ?_)
  clear ho
  refine lv_aload_n hx hb dX0_play_147 rfl (lv_at hl 0 rfl) ?_
  obtain ⟨ca, hf⟩ := m_chkE hf
  replace ca := z_in hM (by decide) ca
  refine z_get (k := 0) (j := 0) (C := RX0) (T := TX0) (N := 7) (fl := zf_0) (v := va_rf ((zP o1.2 0 x0).map (zh y))) X hw_X0_play_0 hM rfl zc_0 ca (by decide) fl_X0_play_0_0 rfl dX0_play_148 ?_
  clear ca
  obtain ⟨b2, hb9, hf⟩ := m_calE hf
  refine z_topr hb9 ?_
  clear hb9
  refine lv_iload_n hx hb dX0_play_151 rfl (lv_at hl 1 rfl) ?_
  refine lv_iconst (v := (0 : Int32)) hx hb dX0_play_152 (by decide) ?_
  obtain ⟨ca, hf⟩ := m_chkE hf
  replace ca := z_in hM (by decide) ca
  obtain ⟨cd, hf⟩ := m_chkE hf
  refine z_iast X hM ca cd dX0_play_153 (fun H locs hM => ?_)
  clear ca cd
  obtain ⟨S3, ev, hf⟩ := m_bndE hf
  replace hM := z_hS hM ev
  clear ev
  refine lv_aload_n hx hb dX0_play_154 rfl (lv_at hl 0 rfl) ?_
  refine lv_dup hx hb dX0_play_155 rfl ?_
  obtain ⟨ca, hf⟩ := m_chkE hf
  replace ca := z_in hM (by decide) ca
  refine z_get (k := 0) (j := 4) (C := RX0) (T := TX0) (N := 7) (fl := zf_0) (v := .int (zI S3 4 x0)) X hw_X0_play_0 hM rfl zc_0 ca (by decide) fl_X0_play_0_4 rfl dX0_play_156 ?_
  clear ca
  refine lv_iload_n hx hb dX0_play_159 rfl (lv_at hl 1 rfl) ?_
  obtain ⟨o4, ho, hf⟩ := m_calE hf
  refine z_callSi X hM (c_X0_rightsOf ho) gX0_play_X0_rightsOf rfl ⟨rfl, rfl⟩ hd_X0_rightsOf ⟨Nat.le_of_ble_eq_true rfl, Nat.le_of_ble_eq_true rfl⟩ rfl hl.1 rfl (Nat.le_of_ble_eq_true rfl) dX0_play_160 (fun H locs hM => ?_)
  clear ho
  refine lv_iload_n hx hb dX0_play_163 rfl (lv_at hl 2 rfl) ?_
  obtain ⟨o5, ho, hf⟩ := m_calE hf
  refine z_callSi X hM (c_X0_rightsOf ho) gX0_play_X0_rightsOf rfl ⟨rfl, rfl⟩ hd_X0_rightsOf ⟨Nat.le_of_ble_eq_true rfl, Nat.le_of_ble_eq_true rfl⟩ rfl hl.1 rfl (Nat.le_of_ble_eq_true rfl) dX0_play_164 (fun H locs hM => ?_)
  clear ho
  refine lv_ior hx hb dX0_play_167 ?_
  obtain ⟨v6, ev, hf⟩ := m_bndE hf
  refine m_top ev ?_
  clear ev
  refine lv_iconst (v := (-1 : Int32)) hx hb dX0_play_168 (by decide) ?_
  refine lv_ixor hx hb dX0_play_169 ?_
  obtain ⟨v7, ev, hf⟩ := m_bndE hf
  refine m_top ev ?_
  clear ev
  refine lv_iand hx hb dX0_play_170 ?_
  obtain ⟨v8, ev, hf⟩ := m_bndE hf
  refine m_top ev ?_
  clear ev
  obtain ⟨ca, hf⟩ := m_chkE hf
  replace ca := z_in hM (by decide) ca
  refine z_putI (k := 0) (j := 4) (C := RX0) (T := TX0) (N := 7) (fl := zf_0) (ty := .int) X hw_X0_play_0 tyX0_ok nmX0 hM rfl zc_0 ca (by decide) fl_X0_play_0_4 rfl (tyX0_ok 4 (by decide)) rfl rfl zi_0_4 (Nat.le_of_ble_eq_true rfl) dX0_play_171 (fun H locs hM => ?_)
  clear ca
  obtain ⟨S9, ev, hf⟩ := m_bndE hf
  replace hM := z_hS hM ev
  clear ev
  refine lv_aload_n hx hb dX0_play_174 rfl (lv_at hl 0 rfl) ?_
  refine lv_iconst (v := (-1 : Int32)) hx hb dX0_play_175 (by decide) ?_
  obtain ⟨ca, hf⟩ := m_chkE hf
  replace ca := z_in hM (by decide) ca
  refine z_putI (k := 0) (j := 5) (C := RX0) (T := TX0) (N := 7) (fl := zf_0) (ty := .int) X hw_X0_play_0 tyX0_ok nmX0 hM rfl zc_0 ca (by decide) fl_X0_play_0_5 rfl (tyX0_ok 5 (by decide)) rfl rfl zi_0_5 (Nat.le_of_ble_eq_true rfl) dX0_play_176 (fun H locs hM => ?_)
  clear ca
  obtain ⟨S10, ev, hf⟩ := m_bndE hf
  replace hM := z_hS hM ev
  clear ev
  refine lv_iload hx hb dX0_play_179 (lv_at hl 3 rfl) ?_
  refine lv_if_eq (tgt := 227) hx hb dX0_play_181 (by decide) (fun cc1 => ?_) (fun cc1 => ?_)
  · replace hf := m_ifT hf cc1
    exact w_X0_play_227 (x0 := x0) X hret hf hM (lv_sub hl [0] rfl)
  · replace hf := m_ifF hf cc1
    refine lv_iload_n hx hb dX0_play_184 rfl (lv_at hl 2 rfl) ?_
    refine lv_iload_n hx hb dX0_play_185 rfl (lv_at hl 1 rfl) ?_
    refine lv_bipush (v := (16 : Int32)) hx hb dX0_play_186 (by decide) ?_
    refine lv_iadd hx hb dX0_play_188 ?_
    obtain ⟨v11, ev, hf⟩ := m_bndE hf
    refine m_top ev ?_
    clear ev
    refine lv_icmp_eq (tgt := 200) hx hb dX0_play_189 (by decide) (fun cc1 => ?_) (fun cc1 => ?_)
    · replace hf := m_ifT hf cc1
      exact w_X0_play_200 (x0 := x0) (x2 := x2) (x3 := x3) X hret hf hM (lv_sub hl [0, 1, 2] rfl)
    · replace hf := m_ifF hf cc1
      refine lv_iload_n hx hb dX0_play_192 rfl (lv_at hl 2 rfl) ?_
      refine lv_iload_n hx hb dX0_play_193 rfl (lv_at hl 1 rfl) ?_
      refine lv_bipush (v := (16 : Int32)) hx hb dX0_play_194 (by decide) ?_
      refine lv_isub hx hb dX0_play_196 ?_
      obtain ⟨v12, ev, hf⟩ := m_bndE hf
      refine m_top ev ?_
      clear ev
      refine lv_icmp_ne (tgt := 227) hx hb dX0_play_197 (by decide) (fun cc1 => ?_) (fun cc1 => ?_)
      · replace hf := m_ifF hf cc1
        exact w_X0_play_227 (x0 := x0) X hret hf hM (lv_sub hl [0] rfl)
      · replace hf := m_ifT hf cc1
        exact w_X0_play_200 (x0 := x0) (x2 := x2) (x3 := x3) X hret hf hM (lv_sub hl [0, 1, 2] rfl)
noncomputable def f_X0_play_118 (x0 : Nat) (x2 : Int32) (x3 : Int32) (x4 : Int32) (x5 : Int32) (S : ZS) : Option (Int32 × ZS) :=
  m_if (x4 = 0) (
  m_chk (zK S x0 = 0) (
  m_cal (zP S 0 x0) (fun b3 =>
  m_chk (zK S b3 = 14) (
  m_chk (¬ (x2 < 0 ∨ zN S b3 ≤ (x2).toNatClampNeg)) (
  m_bnd (zA S b3 (x2).toNatClampNeg) (fun v4 =>
  f_X0_play_144 x0 x2 x3 x5 v4 x3 x0 S)))))
  ) (
  m_chk (zK S x0 = 0) (
  m_bnd ((8 : Int32) * (zI S 3 x0)) (fun v1 =>
  m_bnd (x4 + v1) (fun v2 =>
  f_X0_play_144 x0 x2 x3 x5 v2 x3 x0 S)))
  )

set_option maxRecDepth 100000 in
set_option maxHeartbeats 4000000 in
theorem w_X0_play_118 {p : Program} {l : Launch} {e : Env} {s : State} {m : MethodId} {args : Array Value} {below : List Frame} {meth : Method} {c : Code} {Q : State → Prop} {D : va_G} {y : Nat → ClassId} {A0 : Nat → Prop} {o : Int32 × ZS} (X : CallFix p m c cX0_play 7 s args wsX0_play RX0) (hret : zRv p l e ({ frames := 1, cells := 0, slots := 0, locals := 24 } : Room) s m args below meth c Q cX0_play D y A0 o) {x0 : Nat} {x2 : Int32} {x3 : Int32} {x4 : Int32} {x5 : Int32} {S : ZS} {H : Heap} {locs : List Loc} {ls : Array Slot} (hf : f_X0_play_118 x0 x2 x3 x4 x5 S = some o) (hM : zH D y A0 s H locs S) (hl : lv_has ls 7 [(0, .ref (zh y x0)), (2, .int x2), (3, .int x3), (4, .int x4), (5, .int x5)]) : W p l e ({ frames := 1, cells := 0, slots := 0, locals := 24 } : Room) s m args below meth c H locs 0 0 Q (F0 m 118 ls []) := by
  obtain ⟨hx, hb, hml, hown, hts⟩ := id X
  unfold f_X0_play_118 at hf
  refine lv_aload_n hx hb dX0_play_118 rfl (lv_at hl 0 rfl) ?_
  refine lv_iload_n hx hb dX0_play_119 rfl (lv_at hl 2 rfl) ?_
  refine lv_iload hx hb dX0_play_120 (lv_at hl 3 rfl) ?_
  refine lv_if_ne (tgt := 134) hx hb dX0_play_122 (by decide) (fun cc1 => ?_) (fun cc1 => ?_)
  · replace hf := m_ifF hf cc1
    refine lv_iload hx hb dX0_play_134 (lv_at hl 3 rfl) ?_
    refine lv_bipush (v := (8 : Int32)) hx hb dX0_play_136 (by decide) ?_
    refine lv_aload_n hx hb dX0_play_138 rfl (lv_at hl 0 rfl) ?_
    obtain ⟨ca, hf⟩ := m_chkE hf
    replace ca := z_in hM (by decide) ca
    refine z_get (k := 0) (j := 3) (C := RX0) (T := TX0) (N := 7) (fl := zf_0) (v := .int (zI S 3 x0)) X hw_X0_play_0 hM rfl zc_0 ca (by decide) fl_X0_play_0_3 rfl dX0_play_139 ?_
    clear ca
    refine lv_imul hx hb dX0_play_142 ?_
    obtain ⟨v1, ev, hf⟩ := m_bndE hf
    refine m_top ev ?_
    clear ev
    refine lv_iadd hx hb dX0_play_143 ?_
    obtain ⟨v2, ev, hf⟩ := m_bndE hf
    refine m_top ev ?_
    clear ev
    exact w_X0_play_144 (x0 := x0) (x2 := x2) (x3 := x3) (x5 := x5) (t0 := v2) (t1 := x3) (t2 := x0) X hret hf hM (lv_sub hl [0, 1, 2, 4] rfl)
  · replace hf := m_ifT hf cc1
    refine lv_aload_n hx hb dX0_play_125 rfl (lv_at hl 0 rfl) ?_
    obtain ⟨ca, hf⟩ := m_chkE hf
    replace ca := z_in hM (by decide) ca
    refine z_get (k := 0) (j := 0) (C := RX0) (T := TX0) (N := 7) (fl := zf_0) (v := va_rf ((zP S 0 x0).map (zh y))) X hw_X0_play_0 hM rfl zc_0 ca (by decide) fl_X0_play_0_0 rfl dX0_play_126 ?_
    clear ca
    obtain ⟨b3, hb9, hf⟩ := m_calE hf
    refine z_topr hb9 ?_
    clear hb9
    refine lv_iload_n hx hb dX0_play_129 rfl (lv_at hl 1 rfl) ?_
    obtain ⟨ca, hf⟩ := m_chkE hf
    replace ca := z_in hM (by decide) ca
    obtain ⟨cd, hf⟩ := m_chkE hf
    refine z_iald X hM ca cd dX0_play_130 ?_
    clear ca cd
    obtain ⟨v4, ev, hf⟩ := m_bndE hf
    refine m_top ev ?_
    clear ev
    refine lv_goto (tgt := 144) hx hb dX0_play_131 (by decide) ?_
    exact w_X0_play_144 (x0 := x0) (x2 := x2) (x3 := x3) (x5 := x5) (t0 := v4) (t1 := x3) (t2 := x0) X hret hf hM (lv_sub hl [0, 1, 2, 4] rfl)
noncomputable def f_X0_play_91 (x0 : Nat) (x2 : Int32) (x3 : Int32) (x4 : Int32) (x5 : Int32) (t0 : Int32) (S : ZS) : Option (Int32 × ZS) :=
  m_chk (zK S x0 = 0) (
  m_cal (zP S 0 x0) (fun b1 =>
  m_bnd (x2 + x3) (fun v2 =>
  m_bnd (v2 / (2 : Int32)) (fun v3 =>
  m_chk (zK S x0 = 0) (
  m_cal (zP S 0 x0) (fun b4 =>
  m_chk (zK S b4 = 14) (
  m_chk (¬ (t0 < 0 ∨ zN S b4 ≤ (t0).toNatClampNeg)) (
  m_bnd (zA S b4 (t0).toNatClampNeg) (fun v5 =>
  m_chk (zK S b1 = 14) (
  m_chk (¬ (v3 < 0 ∨ zN S b1 ≤ (v3).toNatClampNeg)) (
  m_bnd (zsA S b1 (v3).toNatClampNeg v5) (fun S6 =>
  m_chk (zK S6 x0 = 0) (
  m_cal (zP S6 0 x0) (fun b7 =>
  m_chk (zK S6 b7 = 14) (
  m_chk (¬ (t0 < 0 ∨ zN S6 b7 ≤ (t0).toNatClampNeg)) (
  m_bnd (zsA S6 b7 (t0).toNatClampNeg (0 : Int32)) (fun S8 =>
  f_X0_play_118 x0 x2 x3 x4 x5 S8)))))))))))))))))

set_option maxRecDepth 100000 in
set_option maxHeartbeats 4000000 in
theorem w_X0_play_91 {p : Program} {l : Launch} {e : Env} {s : State} {m : MethodId} {args : Array Value} {below : List Frame} {meth : Method} {c : Code} {Q : State → Prop} {D : va_G} {y : Nat → ClassId} {A0 : Nat → Prop} {o : Int32 × ZS} (X : CallFix p m c cX0_play 7 s args wsX0_play RX0) (hret : zRv p l e ({ frames := 1, cells := 0, slots := 0, locals := 24 } : Room) s m args below meth c Q cX0_play D y A0 o) {x0 : Nat} {x2 : Int32} {x3 : Int32} {x4 : Int32} {x5 : Int32} {t0 : Int32} {S : ZS} {H : Heap} {locs : List Loc} {ls : Array Slot} (hf : f_X0_play_91 x0 x2 x3 x4 x5 t0 S = some o) (hM : zH D y A0 s H locs S) (hl : lv_has ls 7 [(0, .ref (zh y x0)), (2, .int x2), (3, .int x3), (4, .int x4), (5, .int x5)]) : W p l e ({ frames := 1, cells := 0, slots := 0, locals := 24 } : Room) s m args below meth c H locs 0 0 Q (F0 m 91 ls [.int t0]) := by
  obtain ⟨hx, hb, hml, hown, hts⟩ := id X
  unfold f_X0_play_91 at hf
  refine lv_istore (lv' := [(6, .int t0), (0, .ref (zh y x0)), (2, .int x2), (3, .int x3), (4, .int x4), (5, .int x5)]) hx hb dX0_play_91 hl (by decide) rfl (fun ls hl => ?_)
  refine lv_aload_n hx hb dX0_play_93 rfl (lv_at hl 1 rfl) ?_
  obtain ⟨ca, hf⟩ := m_chkE hf
  replace ca := z_in hM (by decide) ca
  refine z_get (k := 0) (j := 0) (C := RX0) (T := TX0) (N := 7) (fl := zf_0) (v := va_rf ((zP S 0 x0).map (zh y))) X hw_X0_play_0 hM rfl zc_0 ca (by decide) fl_X0_play_0_0 rfl dX0_play_94 ?_
  clear ca
  obtain ⟨b1, hb9, hf⟩ := m_calE hf
  refine z_topr hb9 ?_
  clear hb9
  refine lv_iload_n hx hb dX0_play_97 rfl (lv_at hl 2 rfl) ?_
  refine lv_iload_n hx hb dX0_play_98 rfl (lv_at hl 3 rfl) ?_
  refine lv_iadd hx hb dX0_play_99 ?_
  obtain ⟨v2, ev, hf⟩ := m_bndE hf
  refine m_top ev ?_
  clear ev
  refine lv_iconst (v := (2 : Int32)) hx hb dX0_play_100 (by decide) ?_
  refine lv_idiv hx hb dX0_play_101 (by decide) ?_
  obtain ⟨v3, ev, hf⟩ := m_bndE hf
  refine m_top ev ?_
  clear ev
  refine lv_aload_n hx hb dX0_play_102 rfl (lv_at hl 1 rfl) ?_
  obtain ⟨ca, hf⟩ := m_chkE hf
  replace ca := z_in hM (by decide) ca
  refine z_get (k := 0) (j := 0) (C := RX0) (T := TX0) (N := 7) (fl := zf_0) (v := va_rf ((zP S 0 x0).map (zh y))) X hw_X0_play_0 hM rfl zc_0 ca (by decide) fl_X0_play_0_0 rfl dX0_play_103 ?_
  clear ca
  obtain ⟨b4, hb9, hf⟩ := m_calE hf
  refine z_topr hb9 ?_
  clear hb9
  refine lv_iload hx hb dX0_play_106 (lv_at hl 0 rfl) ?_
  obtain ⟨ca, hf⟩ := m_chkE hf
  replace ca := z_in hM (by decide) ca
  obtain ⟨cd, hf⟩ := m_chkE hf
  refine z_iald X hM ca cd dX0_play_108 ?_
  clear ca cd
  obtain ⟨v5, ev, hf⟩ := m_bndE hf
  refine m_top ev ?_
  clear ev
  obtain ⟨ca, hf⟩ := m_chkE hf
  replace ca := z_in hM (by decide) ca
  obtain ⟨cd, hf⟩ := m_chkE hf
  refine z_iast X hM ca cd dX0_play_109 (fun H locs hM => ?_)
  clear ca cd
  obtain ⟨S6, ev, hf⟩ := m_bndE hf
  replace hM := z_hS hM ev
  clear ev
  refine lv_aload_n hx hb dX0_play_110 rfl (lv_at hl 1 rfl) ?_
  obtain ⟨ca, hf⟩ := m_chkE hf
  replace ca := z_in hM (by decide) ca
  refine z_get (k := 0) (j := 0) (C := RX0) (T := TX0) (N := 7) (fl := zf_0) (v := va_rf ((zP S6 0 x0).map (zh y))) X hw_X0_play_0 hM rfl zc_0 ca (by decide) fl_X0_play_0_0 rfl dX0_play_111 ?_
  clear ca
  obtain ⟨b7, hb9, hf⟩ := m_calE hf
  refine z_topr hb9 ?_
  clear hb9
  refine lv_iload hx hb dX0_play_114 (lv_at hl 0 rfl) ?_
  refine lv_iconst (v := (0 : Int32)) hx hb dX0_play_116 (by decide) ?_
  obtain ⟨ca, hf⟩ := m_chkE hf
  replace ca := z_in hM (by decide) ca
  obtain ⟨cd, hf⟩ := m_chkE hf
  refine z_iast X hM ca cd dX0_play_117 (fun H locs hM => ?_)
  clear ca cd
  obtain ⟨S8, ev, hf⟩ := m_bndE hf
  replace hM := z_hS hM ev
  clear ev
  exact w_X0_play_118 (x0 := x0) (x2 := x2) (x3 := x3) (x4 := x4) (x5 := x5) X hret hf hM (lv_sub hl [1, 2, 3, 4, 5] rfl)
noncomputable def f_X0_play_66 (x0 : Nat) (x2 : Int32) (x3 : Int32) (x4 : Int32) (x5 : Int32) (S : ZS) : Option (Int32 × ZS) :=
  m_chk (zK S x0 = 0) (
  m_cal (f_X0_castles x0 x2 x3 S) (fun o1 =>
  m_if (o1.1 = 0) (
  f_X0_play_118 x0 x2 x3 x4 x5 o1.2
  ) (
  m_if (x3 ≤ x2) (
  m_bnd (x2 &&& (56 : Int32)) (fun v2 =>
  f_X0_play_91 x0 x2 x3 x4 x5 v2 o1.2)
  ) (
  m_bnd (x2 ||| (7 : Int32)) (fun v3 =>
  f_X0_play_91 x0 x2 x3 x4 x5 v3 o1.2)
  )
  )))

set_option maxRecDepth 100000 in
set_option maxHeartbeats 4000000 in
theorem w_X0_play_66 {p : Program} {l : Launch} {e : Env} {s : State} {m : MethodId} {args : Array Value} {below : List Frame} {meth : Method} {c : Code} {Q : State → Prop} {D : va_G} {y : Nat → ClassId} {A0 : Nat → Prop} {o : Int32 × ZS} (X : CallFix p m c cX0_play 7 s args wsX0_play RX0) (hret : zRv p l e ({ frames := 1, cells := 0, slots := 0, locals := 24 } : Room) s m args below meth c Q cX0_play D y A0 o) {x0 : Nat} {x2 : Int32} {x3 : Int32} {x4 : Int32} {x5 : Int32} {S : ZS} {H : Heap} {locs : List Loc} {ls : Array Slot} (hf : f_X0_play_66 x0 x2 x3 x4 x5 S = some o) (hM : zH D y A0 s H locs S) (hl : lv_has ls 7 [(0, .ref (zh y x0)), (2, .int x2), (3, .int x3), (4, .int x4), (5, .int x5)]) : W p l e ({ frames := 1, cells := 0, slots := 0, locals := 24 } : Room) s m args below meth c H locs 0 0 Q (F0 m 66 ls []) := by
  obtain ⟨hx, hb, hml, hown, hts⟩ := id X
  unfold f_X0_play_66 at hf
  refine lv_aload_n hx hb dX0_play_66 rfl (lv_at hl 0 rfl) ?_
  refine lv_iload_n hx hb dX0_play_67 rfl (lv_at hl 1 rfl) ?_
  refine lv_iload_n hx hb dX0_play_68 rfl (lv_at hl 2 rfl) ?_
  obtain ⟨ca, hf⟩ := m_chkE hf
  replace ca := z_in hM (by decide) ca
  obtain ⟨o1, ho, hf⟩ := m_calE hf
  refine z_callVi (k := 0) (C := RX0) (T := TX0) (N := 7) (fl := zf_0) X hM rfl zc_0 ca (c_X0_castles ho) gX0_play_X0_castles rfl ⟨rfl, rfl⟩ hd_X0_castles ⟨Nat.le_of_ble_eq_true rfl, Nat.le_of_ble_eq_true rfl⟩ rfl hl.1 rfl (Nat.le_of_ble_eq_true rfl) dX0_play_69 (fun H locs hM => ?_)
  clear ho
  refine lv_if_eq (tgt := 118) hx hb dX0_play_72 (by decide) (fun cc1 => ?_) (fun cc1 => ?_)
  · replace hf := m_ifT hf cc1
    exact w_X0_play_118 (x0 := x0) (x2 := x2) (x3 := x3) (x4 := x4) (x5 := x5) X hret hf hM (lv_sub hl [0, 1, 2, 3, 4] rfl)
  · replace hf := m_ifF hf cc1
    refine lv_iload_n hx hb dX0_play_75 rfl (lv_at hl 2 rfl) ?_
    refine lv_iload_n hx hb dX0_play_76 rfl (lv_at hl 1 rfl) ?_
    refine lv_icmp_le (tgt := 87) hx hb dX0_play_77 (by decide) (fun cc1 => ?_) (fun cc1 => ?_)
    · replace hf := m_ifT hf cc1
      refine lv_iload_n hx hb dX0_play_87 rfl (lv_at hl 1 rfl) ?_
      refine lv_bipush (v := (56 : Int32)) hx hb dX0_play_88 (by decide) ?_
      refine lv_iand hx hb dX0_play_90 ?_
      obtain ⟨v2, ev, hf⟩ := m_bndE hf
      refine m_top ev ?_
      clear ev
      exact w_X0_play_91 (x0 := x0) (x2 := x2) (x3 := x3) (x4 := x4) (x5 := x5) (t0 := v2) X hret hf hM (lv_sub hl [0, 1, 2, 3, 4] rfl)
    · replace hf := m_ifF hf cc1
      refine lv_iload_n hx hb dX0_play_80 rfl (lv_at hl 1 rfl) ?_
      refine lv_bipush (v := (7 : Int32)) hx hb dX0_play_81 (by decide) ?_
      refine lv_ior hx hb dX0_play_83 ?_
      obtain ⟨v3, ev, hf⟩ := m_bndE hf
      refine m_top ev ?_
      clear ev
      refine lv_goto (tgt := 91) hx hb dX0_play_84 (by decide) ?_
      exact w_X0_play_91 (x0 := x0) (x2 := x2) (x3 := x3) (x4 := x4) (x5 := x5) (t0 := v3) X hret hf hM (lv_sub hl [0, 1, 2, 3, 4] rfl)
noncomputable def f_X0_play_36 (x0 : Nat) (x2 : Int32) (x3 : Int32) (x4 : Int32) (t0 : Int32) (S : ZS) : Option (Int32 × ZS) :=
  m_if (t0 = 0) (
  f_X0_play_66 x0 x2 x3 x4 t0 S
  ) (
  m_chk (zK S x0 = 0) (
  m_if (x3 = (zI S 5 x0)) (
  m_chk (zK S x0 = 0) (
  m_cal (zP S 0 x0) (fun b1 =>
  m_bnd (x2 &&& (56 : Int32)) (fun v2 =>
  m_bnd (x3 &&& (7 : Int32)) (fun v3 =>
  m_bnd (v2 + v3) (fun v4 =>
  m_chk (zK S b1 = 14) (
  m_chk (¬ (v4 < 0 ∨ zN S b1 ≤ (v4).toNatClampNeg)) (
  m_bnd (zsA S b1 (v4).toNatClampNeg (0 : Int32)) (fun S5 =>
  f_X0_play_66 x0 x2 x3 x4 t0 S5))))))))
  ) (
  f_X0_play_66 x0 x2 x3 x4 t0 S
  ))
  )

set_option maxRecDepth 100000 in
set_option maxHeartbeats 4000000 in
theorem w_X0_play_36 {p : Program} {l : Launch} {e : Env} {s : State} {m : MethodId} {args : Array Value} {below : List Frame} {meth : Method} {c : Code} {Q : State → Prop} {D : va_G} {y : Nat → ClassId} {A0 : Nat → Prop} {o : Int32 × ZS} (X : CallFix p m c cX0_play 7 s args wsX0_play RX0) (hret : zRv p l e ({ frames := 1, cells := 0, slots := 0, locals := 24 } : Room) s m args below meth c Q cX0_play D y A0 o) {x0 : Nat} {x2 : Int32} {x3 : Int32} {x4 : Int32} {t0 : Int32} {S : ZS} {H : Heap} {locs : List Loc} {ls : Array Slot} (hf : f_X0_play_36 x0 x2 x3 x4 t0 S = some o) (hM : zH D y A0 s H locs S) (hl : lv_has ls 7 [(0, .ref (zh y x0)), (2, .int x2), (3, .int x3), (4, .int x4)]) : W p l e ({ frames := 1, cells := 0, slots := 0, locals := 24 } : Room) s m args below meth c H locs 0 0 Q (F0 m 36 ls [.int t0]) := by
  obtain ⟨hx, hb, hml, hown, hts⟩ := id X
  unfold f_X0_play_36 at hf
  refine lv_istore (lv' := [(5, .int t0), (0, .ref (zh y x0)), (2, .int x2), (3, .int x3), (4, .int x4)]) hx hb dX0_play_36 hl (by decide) rfl (fun ls hl => ?_)
  refine lv_iload hx hb dX0_play_38 (lv_at hl 0 rfl) ?_
  refine lv_if_eq (tgt := 66) hx hb dX0_play_40 (by decide) (fun cc1 => ?_) (fun cc1 => ?_)
  · replace hf := m_ifT hf cc1
    exact w_X0_play_66 (x0 := x0) (x2 := x2) (x3 := x3) (x4 := x4) (x5 := t0) X hret hf hM (lv_sub hl [1, 2, 3, 4, 0] rfl)
  · replace hf := m_ifF hf cc1
    refine lv_iload_n hx hb dX0_play_43 rfl (lv_at hl 3 rfl) ?_
    refine lv_aload_n hx hb dX0_play_44 rfl (lv_at hl 1 rfl) ?_
    obtain ⟨ca, hf⟩ := m_chkE hf
    replace ca := z_in hM (by decide) ca
    refine z_get (k := 0) (j := 5) (C := RX0) (T := TX0) (N := 7) (fl := zf_0) (v := .int (zI S 5 x0)) X hw_X0_play_0 hM rfl zc_0 ca (by decide) fl_X0_play_0_5 rfl dX0_play_45 ?_
    clear ca
    refine lv_icmp_ne (tgt := 66) hx hb dX0_play_48 (by decide) (fun cc1 => ?_) (fun cc1 => ?_)
    · replace hf := m_ifF hf cc1
      exact w_X0_play_66 (x0 := x0) (x2 := x2) (x3 := x3) (x4 := x4) (x5 := t0) X hret hf hM (lv_sub hl [1, 2, 3, 4, 0] rfl)
    · replace hf := m_ifT hf cc1
      refine lv_aload_n hx hb dX0_play_51 rfl (lv_at hl 1 rfl) ?_
      obtain ⟨ca, hf⟩ := m_chkE hf
      replace ca := z_in hM (by decide) ca
      refine z_get (k := 0) (j := 0) (C := RX0) (T := TX0) (N := 7) (fl := zf_0) (v := va_rf ((zP S 0 x0).map (zh y))) X hw_X0_play_0 hM rfl zc_0 ca (by decide) fl_X0_play_0_0 rfl dX0_play_52 ?_
      clear ca
      obtain ⟨b1, hb9, hf⟩ := m_calE hf
      refine z_topr hb9 ?_
      clear hb9
      refine lv_iload_n hx hb dX0_play_55 rfl (lv_at hl 2 rfl) ?_
      refine lv_bipush (v := (56 : Int32)) hx hb dX0_play_56 (by decide) ?_
      refine lv_iand hx hb dX0_play_58 ?_
      obtain ⟨v2, ev, hf⟩ := m_bndE hf
      refine m_top ev ?_
      clear ev
      refine lv_iload_n hx hb dX0_play_59 rfl (lv_at hl 3 rfl) ?_
      refine lv_bipush (v := (7 : Int32)) hx hb dX0_play_60 (by decide) ?_
      refine lv_iand hx hb dX0_play_62 ?_
      obtain ⟨v3, ev, hf⟩ := m_bndE hf
      refine m_top ev ?_
      clear ev
      refine lv_iadd hx hb dX0_play_63 ?_
      obtain ⟨v4, ev, hf⟩ := m_bndE hf
      refine m_top ev ?_
      clear ev
      refine lv_iconst (v := (0 : Int32)) hx hb dX0_play_64 (by decide) ?_
      obtain ⟨ca, hf⟩ := m_chkE hf
      replace ca := z_in hM (by decide) ca
      obtain ⟨cd, hf⟩ := m_chkE hf
      refine z_iast X hM ca cd dX0_play_65 (fun H locs hM => ?_)
      clear ca cd
      obtain ⟨S5, ev, hf⟩ := m_bndE hf
      replace hM := z_hS hM ev
      clear ev
      exact w_X0_play_66 (x0 := x0) (x2 := x2) (x3 := x3) (x4 := x4) (x5 := t0) X hret hf hM (lv_sub hl [1, 2, 3, 4, 0] rfl)
noncomputable def f_X0_play_0 (x0 : Nat) (x1 : Int32) (S : ZS) : Option (Int32 × ZS) :=
  m_bnd (x1 &&& (63 : Int32)) (fun v1 =>
  m_bnd (x1 >>> ((6 : Int32) &&& 31)) (fun v2 =>
  m_bnd (v2 &&& (63 : Int32)) (fun v3 =>
  m_bnd (x1 >>> ((12 : Int32) &&& 31)) (fun v4 =>
  m_bnd (v4 &&& (7 : Int32)) (fun v5 =>
  m_chk (zK S x0 = 0) (
  m_cal (f_X0_kindAt x0 v1 S) (fun o6 =>
  m_if (o6.1 = (1 : Int32)) (
  f_X0_play_36 x0 v1 v3 v5 (1 : Int32) o6.2
  ) (
  f_X0_play_36 x0 v1 v3 v5 (0 : Int32) o6.2
  ))))))))

set_option maxRecDepth 100000 in
set_option maxHeartbeats 4000000 in
theorem w_X0_play_0 {p : Program} {l : Launch} {e : Env} {s : State} {m : MethodId} {args : Array Value} {below : List Frame} {meth : Method} {c : Code} {Q : State → Prop} {D : va_G} {y : Nat → ClassId} {A0 : Nat → Prop} {o : Int32 × ZS} (X : CallFix p m c cX0_play 7 s args wsX0_play RX0) (hret : zRv p l e ({ frames := 1, cells := 0, slots := 0, locals := 24 } : Room) s m args below meth c Q cX0_play D y A0 o) {x0 : Nat} {x1 : Int32} {S : ZS} {H : Heap} {locs : List Loc} {ls : Array Slot} (hf : f_X0_play_0 x0 x1 S = some o) (hM : zH D y A0 s H locs S) (hl : lv_has ls 7 [(0, .ref (zh y x0)), (1, .int x1)]) : W p l e ({ frames := 1, cells := 0, slots := 0, locals := 24 } : Room) s m args below meth c H locs 0 0 Q (F0 m 0 ls []) := by
  obtain ⟨hx, hb, hml, hown, hts⟩ := id X
  unfold f_X0_play_0 at hf
  refine lv_iload_n hx hb dX0_play_0 rfl (lv_at hl 1 rfl) ?_
  refine lv_bipush (v := (63 : Int32)) hx hb dX0_play_1 (by decide) ?_
  refine lv_iand hx hb dX0_play_3 ?_
  obtain ⟨v1, ev, hf⟩ := m_bndE hf
  refine m_top ev ?_
  clear ev
  refine lv_istore_n (lv' := [(2, .int v1), (0, .ref (zh y x0)), (1, .int x1)]) hx hb dX0_play_4 rfl hl (by decide) rfl (fun ls hl => ?_)
  refine lv_iload_n hx hb dX0_play_5 rfl (lv_at hl 2 rfl) ?_
  refine lv_bipush (v := (6 : Int32)) hx hb dX0_play_6 (by decide) ?_
  refine lv_ishr hx hb dX0_play_8 ?_
  obtain ⟨v2, ev, hf⟩ := m_bndE hf
  refine m_top ev ?_
  clear ev
  refine lv_bipush (v := (63 : Int32)) hx hb dX0_play_9 (by decide) ?_
  refine lv_iand hx hb dX0_play_11 ?_
  obtain ⟨v3, ev, hf⟩ := m_bndE hf
  refine m_top ev ?_
  clear ev
  refine lv_istore_n (lv' := [(3, .int v3), (2, .int v1), (0, .ref (zh y x0)), (1, .int x1)]) hx hb dX0_play_12 rfl hl (by decide) rfl (fun ls hl => ?_)
  refine lv_iload_n hx hb dX0_play_13 rfl (lv_at hl 3 rfl) ?_
  refine lv_bipush (v := (12 : Int32)) hx hb dX0_play_14 (by decide) ?_
  refine lv_ishr hx hb dX0_play_16 ?_
  obtain ⟨v4, ev, hf⟩ := m_bndE hf
  refine m_top ev ?_
  clear ev
  refine lv_bipush (v := (7 : Int32)) hx hb dX0_play_17 (by decide) ?_
  refine lv_iand hx hb dX0_play_19 ?_
  obtain ⟨v5, ev, hf⟩ := m_bndE hf
  refine m_top ev ?_
  clear ev
  refine lv_istore (lv' := [(4, .int v5), (3, .int v3), (2, .int v1), (0, .ref (zh y x0)), (1, .int x1)]) hx hb dX0_play_20 hl (by decide) rfl (fun ls hl => ?_)
  refine lv_aload_n hx hb dX0_play_22 rfl (lv_at hl 3 rfl) ?_
  refine lv_iload_n hx hb dX0_play_23 rfl (lv_at hl 2 rfl) ?_
  obtain ⟨ca, hf⟩ := m_chkE hf
  replace ca := z_in hM (by decide) ca
  obtain ⟨o6, ho, hf⟩ := m_calE hf
  refine z_callVi (k := 0) (C := RX0) (T := TX0) (N := 7) (fl := zf_0) X hM rfl zc_0 ca (c_X0_kindAt ho) gX0_play_X0_kindAt rfl ⟨rfl, rfl⟩ hd_X0_kindAt ⟨Nat.le_of_ble_eq_true rfl, Nat.le_of_ble_eq_true rfl⟩ rfl hl.1 rfl (Nat.le_of_ble_eq_true rfl) dX0_play_24 (fun H locs hM => ?_)
  clear ho
  refine lv_iconst (v := (1 : Int32)) hx hb dX0_play_27 (by decide) ?_
  refine lv_icmp_ne (tgt := 35) hx hb dX0_play_28 (by decide) (fun cc1 => ?_) (fun cc1 => ?_)
  · replace hf := m_ifF hf cc1
    refine lv_iconst (v := (0 : Int32)) hx hb dX0_play_35 (by decide) ?_
    exact w_X0_play_36 (x0 := x0) (x2 := v1) (x3 := v3) (x4 := v5) (t0 := (0 : Int32)) X hret hf hM (lv_sub hl [3, 2, 1, 0] rfl)
  · replace hf := m_ifT hf cc1
    refine lv_iconst (v := (1 : Int32)) hx hb dX0_play_31 (by decide) ?_
    refine lv_goto (tgt := 36) hx hb dX0_play_32 (by decide) ?_
    exact w_X0_play_36 (x0 := x0) (x2 := v1) (x3 := v3) (x4 := v5) (t0 := (1 : Int32)) X hret hf hM (lv_sub hl [3, 2, 1, 0] rfl)
noncomputable def f_X0_play (x0 : Nat) (x1 : Int32) (S : ZS) : Option (Int32 × ZS) := f_X0_play_0 x0 x1 S
theorem c_X0_play {l : Launch} {D : va_G} {y : Nat → ClassId} {x0 : Nat} {x1 : Int32} {S : ZS} {o : Int32 × ZS} (hf : f_X0_play x0 x1 S = some o) : zMv l yX0_play wsX0_play ({ frames := 1, cells := 0, slots := 0, locals := 24 } : Room) [.ref (zh y x0), .int x1] D y S o :=
  z_entryV (own := RX0) (cc := cX0_play) (maxL := 7) (by decide) rfl rfl (Nat.le_of_ble_eq_true rfl) (fun p e s m args below meth c A0 Q H locs ls X hret hM hl => w_X0_play_0 X hret hf hM (lv_sub hl [0, 1] rfl))
theorem hd_X6_init : yX6_init.cls = RX6 ∧ yX6_init.cls ≠ "java/lang/invoke/MethodHandle" ∧ yX6_init.cls ≠ "java/lang/invoke/VarHandle" ∧ (parseMethodDescriptor yX6_init.desc).map (fun d => d.parameters.length) = some 0 := by decide +kernel
theorem fl_X6_init_6_0 : Cond.fieldLink RX6 13 "MoveTexts$Row" "chars" "[C" ∈ wsX6_init := by decide +kernel
theorem fl_X6_init_6_1 : Cond.fieldLink RX6 16 "MoveTexts$Row" "length" "I" ∈ wsX6_init := by decide +kernel
theorem gs_X6_init_NO_CHARS : Cond.fieldLink RX6 7 "MoveTexts$Row" "NO_CHARS" "[C" ∈ wsX6_init := by decide +kernel
theorem hw_X6_init_6 : ∀ w ∈ wsX60, w ∈ wsX6_init := by decide +kernel
theorem ob_X6_init : (Cond.methodLink RX6 1 objectInit ∈ wsX6_init ∧ Cond.instanceMethod objectInit ∈ wsX6_init) ∧ Cond.code objectInit ⟨#[0xb1]⟩ 1 none ∈ wsX6_init := by decide +kernel
noncomputable def f_X6_init_0 (x0 : Nat) (S : ZS) : Option (Int32 × ZS) :=
  m_chk (zK S x0 = 6) (
  m_bnd (zsP S 0 x0 (some (zc S))) (fun S1 =>
  m_chk (zK S1 x0 = 6) (
  m_bnd (zsI S1 1 x0 (0 : Int32)) (fun S2 =>
  some (0, S2)))))

set_option maxRecDepth 100000 in
set_option maxHeartbeats 4000000 in
theorem w_X6_init_0 {p : Program} {l : Launch} {e : Env} {s : State} {m : MethodId} {args : Array Value} {below : List Frame} {meth : Method} {c : Code} {Q : State → Prop} {D : va_G} {y : Nat → ClassId} {A0 : Nat → Prop} {o : Int32 × ZS} (X : CallFix p m c cX6_init 1 s args wsX6_init RX6) (hin : meth.name = "<init>") (hret : zRv p l e ({ frames := 1, cells := 0, slots := 0, locals := 24 } : Room) s m args below meth c Q cX6_init D y A0 o) {x0 : Nat} {S : ZS} {H : Heap} {locs : List Loc} {ls : Array Slot} (hf : f_X6_init_0 x0 S = some o) (hM : zH D y A0 s H locs S) (hl : lv_has ls 1 [(0, .ref (zh y x0))]) : W p l e ({ frames := 1, cells := 0, slots := 0, locals := 24 } : Room) s m args below meth c H locs 0 0 Q (F0 m 0 ls []) := by
  obtain ⟨hx, hb, hml, hown, hts⟩ := id X
  unfold f_X6_init_0 at hf
  refine lv_aload_n hx hb dX6_init_0 rfl (lv_at hl 0 rfl) ?_
  refine z_obj X (by rw [hml]; exact hl.1.symm) ob_X6_init.1 ob_X6_init.2 (Nat.le_of_ble_eq_true rfl) (Nat.le_of_ble_eq_true rfl) dX6_init_1 ?_
  refine lv_aload_n hx hb dX6_init_4 rfl (lv_at hl 0 rfl) ?_
  refine z_nochars X hM gs_X6_init_NO_CHARS dX6_init_5 ?_
  obtain ⟨ca, hf⟩ := m_chkE hf
  replace ca := z_in hM (by decide) ca
  refine z_putP (k := 6) (j := 0) (C := RX6) (T := TX6) (N := 2) (fl := zf_6) (ty := tyX6 0) X hw_X6_init_6 tyX6_ok nmX6 hM rfl zc_6 ca (by decide) fl_X6_init_6_0 rfl (tyX6_ok 0 (by decide)) rfl rfl zp_6_0 (Nat.le_of_ble_eq_true rfl) dX6_init_8 (fun H locs hM => ?_)
  clear ca
  obtain ⟨S1, ev, hf⟩ := m_bndE hf
  replace hM := z_hS hM ev
  clear ev
  refine lv_aload_n hx hb dX6_init_11 rfl (lv_at hl 0 rfl) ?_
  refine lv_iconst (v := (0 : Int32)) hx hb dX6_init_12 (by decide) ?_
  obtain ⟨ca, hf⟩ := m_chkE hf
  replace ca := z_in hM (by decide) ca
  refine z_putI (k := 6) (j := 1) (C := RX6) (T := TX6) (N := 2) (fl := zf_6) (ty := .int) X hw_X6_init_6 tyX6_ok nmX6 hM rfl zc_6 ca (by decide) fl_X6_init_6_1 rfl (tyX6_ok 1 (by decide)) rfl rfl zi_6_1 (Nat.le_of_ble_eq_true rfl) dX6_init_13 (fun H locs hM => ?_)
  clear ca
  obtain ⟨S2, ev, hf⟩ := m_bndE hf
  replace hM := z_hS hM ev
  clear ev
  cases hf
  exact hret H locs _ ls hM dX6_init_16
noncomputable def f_X6_init (x0 : Nat) (S : ZS) : Option (Int32 × ZS) := f_X6_init_0 x0 S
theorem c_X6_init {l : Launch} {D : va_G} {y : Nat → ClassId} {x0 : Nat} {S : ZS} {o : Int32 × ZS} (hf : f_X6_init x0 S = some o) : zMv l yX6_init wsX6_init ({ frames := 1, cells := 0, slots := 0, locals := 24 } : Room) [.ref (zh y x0)] D y S o :=
  z_entryC (own := RX6) (cc := cX6_init) (maxL := 1) (by decide) rfl rfl (Nat.le_of_ble_eq_true rfl) rfl (fun p e s m args below meth c A0 Q H locs ls X hin hret hM hl => w_X6_init_0 X hin hret hf hM (lv_sub hl [0] rfl))
theorem hd_X4_init : yX4_init.cls = RX4 ∧ yX4_init.cls ≠ "java/lang/invoke/MethodHandle" ∧ yX4_init.cls ≠ "java/lang/invoke/VarHandle" ∧ (parseMethodDescriptor yX4_init.desc).map (fun d => d.parameters.length) = some 0 := by decide +kernel
theorem fl_X4_init_4_0 : Cond.fieldLink RX4 9 "MoveTexts$Node" "parent" "I" ∈ wsX4_init := by decide +kernel
theorem fl_X4_init_4_1 : Cond.fieldLink RX4 15 "MoveTexts$Node" "move" "I" ∈ wsX4_init := by decide +kernel
theorem fl_X4_init_4_2 : Cond.fieldLink RX4 18 "MoveTexts$Node" "first" "I" ∈ wsX4_init := by decide +kernel
theorem fl_X4_init_4_3 : Cond.fieldLink RX4 21 "MoveTexts$Node" "next" "I" ∈ wsX4_init := by decide +kernel
theorem fl_X4_init_4_4 : Cond.fieldLink RX4 24 "MoveTexts$Node" "markCount" "I" ∈ wsX4_init := by decide +kernel
theorem fl_X4_init_4_5 : Cond.fieldLink RX4 27 "MoveTexts$Node" "marks" "I" ∈ wsX4_init := by decide +kernel
theorem fl_X4_init_4_6 : Cond.fieldLink RX4 33 "MoveTexts$Node" "remark" "LMoveTexts$Row;" ∈ wsX4_init := by decide +kernel
theorem hw_X4_init_4 : ∀ w ∈ wsX40, w ∈ wsX4_init := by decide +kernel
theorem hw_X4_init_6 : ∀ w ∈ wsX60, w ∈ wsX4_init := by decide +kernel
theorem ii_X4_init_32 : (RX4, 32, yX6_init, "MoveTexts") ∈ zNW ∧ Cond.initialized yX6_init.cls ∈ wsX4_init ∧ Cond.instanceMethod yX6_init ∈ wsX4_init := by decide +kernel
theorem nw_X4_init_30 : Cond.classLink RX4 30 RX6 ∈ wsX4_init ∧ Cond.instantiable RX6 2 ∈ wsX4_init ∧ Cond.initialized RX6 ∈ wsX4_init := by decide +kernel
theorem ob_X4_init : (Cond.methodLink RX4 3 objectInit ∈ wsX4_init ∧ Cond.instanceMethod objectInit ∈ wsX4_init) ∧ Cond.code objectInit ⟨#[0xb1]⟩ 1 none ∈ wsX4_init := by decide +kernel
noncomputable def g_X4_init_0 (Pw : Int32 → ZS → Prop) (x0 : Nat) (S : ZS) (C T : Nat) : Prop :=
  m_chkQ (zK S x0 = 4) (
  m_bndP (zsI S 0 x0 (-1 : Int32)) (fun S1 =>
  m_chkQ (zK S1 x0 = 4) (
  m_bndP (zsI S1 1 x0 (-1 : Int32)) (fun S2 =>
  m_chkQ (zK S2 x0 = 4) (
  m_bndP (zsI S2 2 x0 (-1 : Int32)) (fun S3 =>
  m_chkQ (zK S3 x0 = 4) (
  m_bndP (zsI S3 3 x0 (-1 : Int32)) (fun S4 =>
  m_chkQ (zK S4 x0 = 4) (
  m_bndP (zsI S4 4 x0 (0 : Int32)) (fun S5 =>
  m_chkQ (zK S5 x0 = 4) (
  m_bndP (zsI S5 5 x0 (0 : Int32)) (fun S6 =>
  m_newP (C) (T) 2 (zt S6) (fun q7 C9 T10 =>
  m_bndP (zsNewO S6 q7 6 2) (fun S8 =>
  m_calP (f_X6_init q7 S8) (fun o11 =>
  m_chkQ (zK o11.2 x0 = 4) (
  m_bndP (zsP o11.2 6 x0 (some q7)) (fun S12 =>
  Pw 0 S12)))))))))))))))))

set_option maxRecDepth 100000 in
set_option maxHeartbeats 4000000 in
theorem w_X4_init_0 {p : Program} {l : Launch} {e : Env} {s : State} {m : MethodId} {args : Array Value} {below : List Frame} {meth : Method} {c : Code} {Q : State → Prop} {D : va_G} {y : Nat → ClassId} {A0 : Nat → Prop} {kc kt : Nat} {Pw : Int32 → ZS → Prop} (X : CallFix p m c cX4_init 1 s args wsX4_init RX4) (hin : meth.name = "<init>") (hret : zQv p l e ({ frames := 2, cells := kc, slots := kt, locals := 44 } : Room) s m args below meth c Q cX4_init D y A0 Pw) {x0 : Nat} {S : ZS} {C T : Nat} {H : Heap} {locs : List Loc} {ls : Array Slot} (hf : g_X4_init_0 Pw x0 S C T) (hCT : C ≤ kc ∧ T ≤ kt) (hM : zH D y A0 s H locs S) (hl : lv_has ls 1 [(0, .ref (zh y x0))]) : W p l e ({ frames := 2, cells := kc, slots := kt, locals := 44 } : Room) s m args below meth c H locs (kc - C) (kt - T) Q (F0 m 0 ls []) := by
  obtain ⟨hx, hb, hml, hown, hts⟩ := id X
  unfold g_X4_init_0 at hf
  refine lv_aload_n hx hb dX4_init_0 rfl (lv_at hl 0 rfl) ?_
  refine z_obj X (by rw [hml]; exact hl.1.symm) ob_X4_init.1 ob_X4_init.2 (Nat.le_of_ble_eq_true rfl) (Nat.le_of_ble_eq_true rfl) dX4_init_1 ?_
  refine lv_aload_n hx hb dX4_init_4 rfl (lv_at hl 0 rfl) ?_
  refine lv_iconst (v := (-1 : Int32)) hx hb dX4_init_5 (by decide) ?_
  obtain ⟨ca, hf⟩ := m_chkPE hf
  replace ca := z_in hM (by decide) ca
  refine z_putI (k := 4) (j := 0) (C := RX4) (T := TX4) (N := 7) (fl := zf_4) (ty := .int) X hw_X4_init_4 tyX4_ok nmX4 hM rfl zc_4 ca (by decide) fl_X4_init_4_0 rfl (tyX4_ok 0 (by decide)) rfl rfl zi_4_0 (Nat.le_of_ble_eq_true rfl) dX4_init_6 (fun H locs hM => ?_)
  clear ca
  obtain ⟨S1, ev, hf⟩ := m_bndPE hf
  replace hM := z_hS hM ev
  clear ev
  refine lv_aload_n hx hb dX4_init_9 rfl (lv_at hl 0 rfl) ?_
  refine lv_iconst (v := (-1 : Int32)) hx hb dX4_init_10 (by decide) ?_
  obtain ⟨ca, hf⟩ := m_chkPE hf
  replace ca := z_in hM (by decide) ca
  refine z_putI (k := 4) (j := 1) (C := RX4) (T := TX4) (N := 7) (fl := zf_4) (ty := .int) X hw_X4_init_4 tyX4_ok nmX4 hM rfl zc_4 ca (by decide) fl_X4_init_4_1 rfl (tyX4_ok 1 (by decide)) rfl rfl zi_4_1 (Nat.le_of_ble_eq_true rfl) dX4_init_11 (fun H locs hM => ?_)
  clear ca
  obtain ⟨S2, ev, hf⟩ := m_bndPE hf
  replace hM := z_hS hM ev
  clear ev
  refine lv_aload_n hx hb dX4_init_14 rfl (lv_at hl 0 rfl) ?_
  refine lv_iconst (v := (-1 : Int32)) hx hb dX4_init_15 (by decide) ?_
  obtain ⟨ca, hf⟩ := m_chkPE hf
  replace ca := z_in hM (by decide) ca
  refine z_putI (k := 4) (j := 2) (C := RX4) (T := TX4) (N := 7) (fl := zf_4) (ty := .int) X hw_X4_init_4 tyX4_ok nmX4 hM rfl zc_4 ca (by decide) fl_X4_init_4_2 rfl (tyX4_ok 2 (by decide)) rfl rfl zi_4_2 (Nat.le_of_ble_eq_true rfl) dX4_init_16 (fun H locs hM => ?_)
  clear ca
  obtain ⟨S3, ev, hf⟩ := m_bndPE hf
  replace hM := z_hS hM ev
  clear ev
  refine lv_aload_n hx hb dX4_init_19 rfl (lv_at hl 0 rfl) ?_
  refine lv_iconst (v := (-1 : Int32)) hx hb dX4_init_20 (by decide) ?_
  obtain ⟨ca, hf⟩ := m_chkPE hf
  replace ca := z_in hM (by decide) ca
  refine z_putI (k := 4) (j := 3) (C := RX4) (T := TX4) (N := 7) (fl := zf_4) (ty := .int) X hw_X4_init_4 tyX4_ok nmX4 hM rfl zc_4 ca (by decide) fl_X4_init_4_3 rfl (tyX4_ok 3 (by decide)) rfl rfl zi_4_3 (Nat.le_of_ble_eq_true rfl) dX4_init_21 (fun H locs hM => ?_)
  clear ca
  obtain ⟨S4, ev, hf⟩ := m_bndPE hf
  replace hM := z_hS hM ev
  clear ev
  refine lv_aload_n hx hb dX4_init_24 rfl (lv_at hl 0 rfl) ?_
  refine lv_iconst (v := (0 : Int32)) hx hb dX4_init_25 (by decide) ?_
  obtain ⟨ca, hf⟩ := m_chkPE hf
  replace ca := z_in hM (by decide) ca
  refine z_putI (k := 4) (j := 4) (C := RX4) (T := TX4) (N := 7) (fl := zf_4) (ty := .int) X hw_X4_init_4 tyX4_ok nmX4 hM rfl zc_4 ca (by decide) fl_X4_init_4_4 rfl (tyX4_ok 4 (by decide)) rfl rfl zi_4_4 (Nat.le_of_ble_eq_true rfl) dX4_init_26 (fun H locs hM => ?_)
  clear ca
  obtain ⟨S5, ev, hf⟩ := m_bndPE hf
  replace hM := z_hS hM ev
  clear ev
  refine lv_aload_n hx hb dX4_init_29 rfl (lv_at hl 0 rfl) ?_
  refine lv_iconst (v := (0 : Int32)) hx hb dX4_init_30 (by decide) ?_
  obtain ⟨ca, hf⟩ := m_chkPE hf
  replace ca := z_in hM (by decide) ca
  refine z_putI (k := 4) (j := 5) (C := RX4) (T := TX4) (N := 7) (fl := zf_4) (ty := .int) X hw_X4_init_4 tyX4_ok nmX4 hM rfl zc_4 ca (by decide) fl_X4_init_4_5 rfl (tyX4_ok 5 (by decide)) rfl rfl zi_4_5 (Nat.le_of_ble_eq_true rfl) dX4_init_31 (fun H locs hM => ?_)
  clear ca
  obtain ⟨S6, ev, hf⟩ := m_bndPE hf
  replace hM := z_hS hM ev
  clear ev
  refine lv_aload_n hx hb dX4_init_34 rfl (lv_at hl 0 rfl) ?_
  obtain ⟨hcm, ho⟩ := hf
  refine z_newO (k := 6) (C := RX6) (T := TX6) (N := 2) (fl := zf_6) X hw_X4_init_6 tyX6_ok hM rfl zc_6 nw_X4_init_30 zd_6 ⟨by show kc - (C) + 1 ≤ kc; omega, by show kt - (T) + 2 ≤ kt; omega⟩ dX4_init_35 (fun q7 H hq hM => ?_)
  replace hf := ho q7 hq
  refine z_eqCS (c2 := kc - (C - 1)) (t2 := kt - (T - 2)) (by omega) (by omega) ?_
  replace hCT : C - 1 ≤ kc ∧ T - 2 ≤ kt := by omega
  generalize C - 1 = C9 at hf hCT ⊢
  generalize T - 2 = T10 at hf hCT ⊢
  obtain ⟨S8, ev, hf⟩ := m_bndPE hf
  replace hM := z_hS hM ev
  clear ev ho hcm hq
  refine lv_dup hx hb dX4_init_38 rfl ?_
  obtain ⟨o11, ho, hf⟩ := m_calPE hf
  refine z_gcallINv X hM (c_X6_init ho) gX4_init_X6_init_n32 ii_X4_init_32.1 ii_X4_init_32.2.1 ii_X4_init_32.2.2 rfl rfl ⟨rfl, rfl⟩ hd_X6_init.2 ⟨Nat.le_of_ble_eq_true rfl, Nat.le_of_ble_eq_true rfl⟩ rfl hl.1 rfl ⟨Nat.sub_le _ _, Nat.sub_le _ _⟩ (Nat.le_of_ble_eq_true rfl) dX4_init_39 (fun H locs hM => ?_)
  clear ho
  obtain ⟨ca, hf⟩ := m_chkPE hf
  replace ca := z_in hM (by decide) ca
  refine z_putPF (k := 4) (j := 6) (C := RX4) (T := TX4) (N := 7) (fl := zf_4) (ty := tyX4 6) X hw_X4_init_4 tyX4_ok nmX4 hM rfl zc_4 ca (by decide) fl_X4_init_4_6 rfl hin rfl (tyX4_ok 6 (by decide)) rfl rfl zp_4_6 (Nat.le_of_ble_eq_true rfl) dX4_init_42 (fun H locs hM => ?_)
  clear ca
  obtain ⟨S12, ev, hf⟩ := m_bndPE hf
  replace hM := z_hS hM ev
  clear ev
  exact hret _ _ _ H locs _ ls hf hM dX4_init_45
noncomputable def g_X4_init (x0 : Nat) (S : ZS) (mc ms : Nat) (Pw : Int32 → ZS → Prop) : Prop := g_X4_init_0 Pw x0 S mc ms
theorem c_X4_init {l : Launch} {D : va_G} {y : Nat → ClassId} {x0 : Nat} {S : ZS} {kc kt : Nat} {Pw : Int32 → ZS → Prop} (hf : g_X4_init x0 S kc kt Pw) : zWv l yX4_init wsX4_init ({ frames := 2, cells := kc, slots := kt, locals := 44 } : Room) [.ref (zh y x0)] D y S kc kt Pw :=
  z_wentC (own := RX4) (cc := cX4_init) (maxL := 1) (by decide) rfl rfl (Nat.le_of_ble_eq_true rfl) ⟨rfl, rfl⟩ rfl (fun p e s m args below meth c A0 Q H locs ls X hin hret hM hl => w_X4_init_0 X hin hret hf ⟨Nat.le_refl _, Nat.le_refl _⟩ hM (lv_sub hl [0] rfl))
theorem hd_X1_init : yX1_init.cls = RX1 ∧ yX1_init.cls ≠ "java/lang/invoke/MethodHandle" ∧ yX1_init.cls ≠ "java/lang/invoke/VarHandle" ∧ (parseMethodDescriptor yX1_init.desc).map (fun d => d.parameters.length) = some 0 := by decide +kernel
theorem ar_X1_init_int : Cond.arrayClass .int ∈ wsX1_init := by decide +kernel
theorem fl_X1_init_1_0 : Cond.fieldLink RX1 12 "MoveTexts$Game" "start" "LMoveTexts$Board;" ∈ wsX1_init := by decide +kernel
theorem fl_X1_init_1_1 : Cond.fieldLink RX1 21 "MoveTexts$Game" "root" "LMoveTexts$Node;" ∈ wsX1_init := by decide +kernel
theorem fl_X1_init_1_2 : Cond.fieldLink RX1 25 "MoveTexts$Game" "others" "[LMoveTexts$Node;" ∈ wsX1_init := by decide +kernel
theorem fl_X1_init_1_3 : Cond.fieldLink RX1 29 "MoveTexts$Game" "greatest" "I" ∈ wsX1_init := by decide +kernel
theorem fl_X1_init_1_4 : Cond.fieldLink RX1 35 "MoveTexts$Game" "tagRow" "[LMoveTexts$Tag;" ∈ wsX1_init := by decide +kernel
theorem fl_X1_init_1_5 : Cond.fieldLink RX1 39 "MoveTexts$Game" "tagCount" "I" ∈ wsX1_init := by decide +kernel
theorem fl_X1_init_1_6 : Cond.fieldLink RX1 42 "MoveTexts$Game" "result" "I" ∈ wsX1_init := by decide +kernel
theorem fl_X1_init_1_7 : Cond.fieldLink RX1 45 "MoveTexts$Game" "scratch" "[I" ∈ wsX1_init := by decide +kernel
theorem hw_X1_init_0 : ∀ w ∈ wsX00, w ∈ wsX1_init := by decide +kernel
theorem hw_X1_init_1 : ∀ w ∈ wsX10, w ∈ wsX1_init := by decide +kernel
theorem hw_X1_init_4 : ∀ w ∈ wsX40, w ∈ wsX1_init := by decide +kernel
theorem ii_X1_init_11 : (RX1, 11, yX0_init, "MoveTexts") ∈ zNW ∧ Cond.initialized yX0_init.cls ∈ wsX1_init ∧ Cond.instanceMethod yX0_init ∈ wsX1_init := by decide +kernel
theorem ii_X1_init_20 : (RX1, 20, yX4_init, "MoveTexts") ∈ zNW ∧ Cond.initialized yX4_init.cls ∈ wsX1_init ∧ Cond.instanceMethod yX4_init ∈ wsX1_init := by decide +kernel
theorem na_X1_init_18 : RX4 ∈ zAO ∧ Cond.classLink RX1 18 RX4 ∈ wsX1_init := by decide +kernel
theorem na_X1_init_33 : RX10 ∈ zAO ∧ Cond.classLink RX1 33 RX10 ∈ wsX1_init := by decide +kernel
theorem nw_X1_init_18 : Cond.classLink RX1 18 RX4 ∈ wsX1_init ∧ Cond.instantiable RX4 7 ∈ wsX1_init ∧ Cond.initialized RX4 ∈ wsX1_init := by decide +kernel
theorem nw_X1_init_9 : Cond.classLink RX1 9 RX0 ∈ wsX1_init ∧ Cond.instantiable RX0 7 ∈ wsX1_init ∧ Cond.initialized RX0 ∈ wsX1_init := by decide +kernel
theorem ob_X1_init : (Cond.methodLink RX1 3 objectInit ∈ wsX1_init ∧ Cond.instanceMethod objectInit ∈ wsX1_init) ∧ Cond.code objectInit ⟨#[0xb1]⟩ 1 none ∈ wsX1_init := by decide +kernel
noncomputable def g_X1_init_0 (Pw : Int32 → ZS → Prop) (x0 : Nat) (S : ZS) (C T : Nat) : Prop :=
  m_newP (C) (T) 7 (zt S) (fun q1 C3 T4 =>
  m_bndP (zsNewO S q1 0 7) (fun S2 =>
  m_gal (C3) (T4) (fun mc ms Pw => g_X0_init q1 S2 mc ms Pw) (fun r6 S7 C8 T9 =>
  m_chkQ (zK S7 x0 = 1) (
  m_bndP (zsP S7 0 x0 (some q1)) (fun S10 =>
  m_newP (C8) (T9) 7 (zt S10) (fun q11 C13 T14 =>
  m_bndP (zsNewO S10 q11 4 7) (fun S12 =>
  m_gal (C13) (T14) (fun mc ms Pw => g_X4_init q11 S12 mc ms Pw) (fun r16 S17 C18 T19 =>
  m_chkQ (zK S17 x0 = 1) (
  m_bndP (zsP S17 1 x0 (some q11)) (fun S20 =>
  m_chkQ (¬ (301 : Int32) < 0 ∧ ((301 : Int32)).toNatClampNeg * 4 ≤ 536870912) (
  m_newP (C18) (T19) ((301 : Int32)).toNatClampNeg (zt S20) (fun q21 C23 T24 =>
  m_bndP (zsNewA S20 q21 16 ((301 : Int32)).toNatClampNeg) (fun S22 =>
  m_chkQ (zK S22 x0 = 1) (
  m_bndP (zsP S22 2 x0 (some q21)) (fun S25 =>
  m_chkQ (zK S25 x0 = 1) (
  m_bndP (zsI S25 3 x0 (0 : Int32)) (fun S26 =>
  m_chkQ (¬ (8 : Int32) < 0 ∧ ((8 : Int32)).toNatClampNeg * 4 ≤ 536870912) (
  m_newP (C23) (T24) ((8 : Int32)).toNatClampNeg (zt S26) (fun q27 C29 T30 =>
  m_bndP (zsNewA S26 q27 17 ((8 : Int32)).toNatClampNeg) (fun S28 =>
  m_chkQ (zK S28 x0 = 1) (
  m_bndP (zsP S28 4 x0 (some q27)) (fun S31 =>
  m_chkQ (zK S31 x0 = 1) (
  m_bndP (zsI S31 5 x0 (0 : Int32)) (fun S32 =>
  m_chkQ (zK S32 x0 = 1) (
  m_bndP (zsI S32 6 x0 (0 : Int32)) (fun S33 =>
  m_chkQ (¬ (301 : Int32) < 0 ∧ ((301 : Int32)).toNatClampNeg * componentBytes .int ≤ 536870912) (
  m_newP (C29) (T30) ((301 : Int32)).toNatClampNeg (zt S33) (fun q34 C36 T37 =>
  m_bndP (zsNewA S33 q34 14 ((301 : Int32)).toNatClampNeg) (fun S35 =>
  m_chkQ (zK S35 x0 = 1) (
  m_bndP (zsP S35 7 x0 (some q34)) (fun S38 =>
  m_chkQ (zK S38 x0 = 1) (
  m_calP (zP S38 0 x0) (fun b39 =>
  m_chkQ (zK S38 b39 = 0) (
  m_calP (f_X0_setUp b39 S38) (fun o40 =>
  Pw 0 o40.2)))))))))))))))))))))))))))))))))))

set_option maxRecDepth 100000 in
set_option maxHeartbeats 4000000 in
theorem w_X1_init_0 {p : Program} {l : Launch} {e : Env} {s : State} {m : MethodId} {args : Array Value} {below : List Frame} {meth : Method} {c : Code} {Q : State → Prop} {D : va_G} {y : Nat → ClassId} {A0 : Nat → Prop} {kc kt : Nat} {Pw : Int32 → ZS → Prop} (X : CallFix p m c cX1_init 1 s args wsX1_init RX1) (hin : meth.name = "<init>") (hret : zQv p l e ({ frames := 3, cells := kc, slots := kt, locals := 64 } : Room) s m args below meth c Q cX1_init D y A0 Pw) {x0 : Nat} {S : ZS} {C T : Nat} {H : Heap} {locs : List Loc} {ls : Array Slot} (hf : g_X1_init_0 Pw x0 S C T) (hCT : C ≤ kc ∧ T ≤ kt) (hM : zH D y A0 s H locs S) (hl : lv_has ls 1 [(0, .ref (zh y x0))]) : W p l e ({ frames := 3, cells := kc, slots := kt, locals := 64 } : Room) s m args below meth c H locs (kc - C) (kt - T) Q (F0 m 0 ls []) := by
  obtain ⟨hx, hb, hml, hown, hts⟩ := id X
  unfold g_X1_init_0 at hf
  refine lv_aload_n hx hb dX1_init_0 rfl (lv_at hl 0 rfl) ?_
  refine z_obj X (by rw [hml]; exact hl.1.symm) ob_X1_init.1 ob_X1_init.2 (Nat.le_of_ble_eq_true rfl) (Nat.le_of_ble_eq_true rfl) dX1_init_1 ?_
  refine lv_aload_n hx hb dX1_init_4 rfl (lv_at hl 0 rfl) ?_
  obtain ⟨hcm, ho⟩ := hf
  refine z_newO (k := 0) (C := RX0) (T := TX0) (N := 7) (fl := zf_0) X hw_X1_init_0 tyX0_ok hM rfl zc_0 nw_X1_init_9 zd_0 ⟨by show kc - (C) + 1 ≤ kc; omega, by show kt - (T) + 7 ≤ kt; omega⟩ dX1_init_5 (fun q1 H hq hM => ?_)
  replace hf := ho q1 hq
  refine z_eqCS (c2 := kc - (C - 1)) (t2 := kt - (T - 7)) (by omega) (by omega) ?_
  replace hCT : C - 1 ≤ kc ∧ T - 7 ≤ kt := by omega
  generalize C - 1 = C3 at hf hCT ⊢
  generalize T - 7 = T4 at hf hCT ⊢
  obtain ⟨S2, ev, hf⟩ := m_bndPE hf
  replace hM := z_hS hM ev
  clear ev ho hcm hq
  refine lv_dup hx hb dX1_init_8 rfl ?_
  obtain ⟨mc, ms, hcm, ho⟩ := m_galE hf
  refine z_wcallINv X hM (c_X0_init ho) gX1_init_X0_init_n11 ii_X1_init_11.1 ii_X1_init_11.2.1 ii_X1_init_11.2.2 rfl rfl ⟨rfl, rfl⟩ ⟨by show kc - (C3) + mc ≤ kc; omega, by show kt - (T4) + ms ≤ kt; omega⟩ hd_X0_init.2 ⟨Nat.le_of_ble_eq_true rfl, Nat.le_of_ble_eq_true rfl⟩ rfl hl.1 rfl (Nat.le_of_ble_eq_true rfl) dX1_init_9 (fun S7 H locs hf hM => ?_)
  refine z_eqCS (c2 := kc - (C3 - mc)) (t2 := kt - (T4 - ms)) (by omega) (by omega) ?_
  replace hCT : C3 - mc ≤ kc ∧ T4 - ms ≤ kt := by omega
  generalize C3 - mc = C8 at hf hCT ⊢
  generalize T4 - ms = T9 at hf hCT ⊢
  clear ho hcm
  obtain ⟨ca, hf⟩ := m_chkPE hf
  replace ca := z_in hM (by decide) ca
  refine z_putPF (k := 1) (j := 0) (C := RX1) (T := TX1) (N := 8) (fl := zf_1) (ty := tyX1 0) X hw_X1_init_1 tyX1_ok nmX1 hM rfl zc_1 ca (by decide) fl_X1_init_1_0 rfl hin rfl (tyX1_ok 0 (by decide)) rfl rfl zp_1_0 (Nat.le_of_ble_eq_true rfl) dX1_init_12 (fun H locs hM => ?_)
  clear ca
  obtain ⟨S10, ev, hf⟩ := m_bndPE hf
  replace hM := z_hS hM ev
  clear ev
  refine lv_aload_n hx hb dX1_init_15 rfl (lv_at hl 0 rfl) ?_
  obtain ⟨hcm, ho⟩ := hf
  refine z_newO (k := 4) (C := RX4) (T := TX4) (N := 7) (fl := zf_4) X hw_X1_init_4 tyX4_ok hM rfl zc_4 nw_X1_init_18 zd_4 ⟨by show kc - (C8) + 1 ≤ kc; omega, by show kt - (T9) + 7 ≤ kt; omega⟩ dX1_init_16 (fun q11 H hq hM => ?_)
  replace hf := ho q11 hq
  refine z_eqCS (c2 := kc - (C8 - 1)) (t2 := kt - (T9 - 7)) (by omega) (by omega) ?_
  replace hCT : C8 - 1 ≤ kc ∧ T9 - 7 ≤ kt := by omega
  generalize C8 - 1 = C13 at hf hCT ⊢
  generalize T9 - 7 = T14 at hf hCT ⊢
  obtain ⟨S12, ev, hf⟩ := m_bndPE hf
  replace hM := z_hS hM ev
  clear ev ho hcm hq
  refine lv_dup hx hb dX1_init_19 rfl ?_
  obtain ⟨mc, ms, hcm, ho⟩ := m_galE hf
  refine z_wcallINv X hM (c_X4_init ho) gX1_init_X4_init_n20 ii_X1_init_20.1 ii_X1_init_20.2.1 ii_X1_init_20.2.2 rfl rfl ⟨rfl, rfl⟩ ⟨by show kc - (C13) + mc ≤ kc; omega, by show kt - (T14) + ms ≤ kt; omega⟩ hd_X4_init.2 ⟨Nat.le_of_ble_eq_true rfl, Nat.le_of_ble_eq_true rfl⟩ rfl hl.1 rfl (Nat.le_of_ble_eq_true rfl) dX1_init_20 (fun S17 H locs hf hM => ?_)
  refine z_eqCS (c2 := kc - (C13 - mc)) (t2 := kt - (T14 - ms)) (by omega) (by omega) ?_
  replace hCT : C13 - mc ≤ kc ∧ T14 - ms ≤ kt := by omega
  generalize C13 - mc = C18 at hf hCT ⊢
  generalize T14 - ms = T19 at hf hCT ⊢
  clear ho hcm
  obtain ⟨ca, hf⟩ := m_chkPE hf
  replace ca := z_in hM (by decide) ca
  refine z_putPF (k := 1) (j := 1) (C := RX1) (T := TX1) (N := 8) (fl := zf_1) (ty := tyX1 1) X hw_X1_init_1 tyX1_ok nmX1 hM rfl zc_1 ca (by decide) fl_X1_init_1_1 rfl hin rfl (tyX1_ok 1 (by decide)) rfl rfl zp_1_1 (Nat.le_of_ble_eq_true rfl) dX1_init_23 (fun H locs hM => ?_)
  clear ca
  obtain ⟨S20, ev, hf⟩ := m_bndPE hf
  replace hM := z_hS hM ev
  clear ev
  refine lv_aload_n hx hb dX1_init_26 rfl (lv_at hl 0 rfl) ?_
  refine lv_sipush (v := (301 : Int32)) hx hb dX1_init_27 (by decide) ?_
  obtain ⟨cd, hf⟩ := m_chkPE hf
  obtain ⟨hcm, ho⟩ := hf
  refine z_newR (k := 16) (t0 := 3) (C := RX4) X hM (fun _ _ _ _ _ => rfl) rfl na_X1_init_18.1 na_X1_init_18.2 cd.1 cd.2 ⟨by show kc - (C18) + 1 ≤ kc; omega, by show kt - (T19) + _ ≤ kt; omega⟩ dX1_init_30 (fun q21 H hq hM => ?_)
  replace hf := ho q21 hq
  refine z_eqCS (c2 := kc - (C18 - 1)) (t2 := kt - (T19 - ((301 : Int32)).toNatClampNeg)) (by omega) (by omega) ?_
  replace hCT : C18 - 1 ≤ kc ∧ T19 - ((301 : Int32)).toNatClampNeg ≤ kt := by omega
  generalize C18 - 1 = C23 at hf hCT ⊢
  generalize T19 - ((301 : Int32)).toNatClampNeg = T24 at hf hCT ⊢
  obtain ⟨S22, ev, hf⟩ := m_bndPE hf
  replace hM := z_hS hM ev
  clear ev ho hcm cd hq
  obtain ⟨ca, hf⟩ := m_chkPE hf
  replace ca := z_in hM (by decide) ca
  refine z_putPF (k := 1) (j := 2) (C := RX1) (T := TX1) (N := 8) (fl := zf_1) (ty := tyX1 2) X hw_X1_init_1 tyX1_ok nmX1 hM rfl zc_1 ca (by decide) fl_X1_init_1_2 rfl hin rfl (tyX1_ok 2 (by decide)) rfl rfl zp_1_2 (Nat.le_of_ble_eq_true rfl) dX1_init_33 (fun H locs hM => ?_)
  clear ca
  obtain ⟨S25, ev, hf⟩ := m_bndPE hf
  replace hM := z_hS hM ev
  clear ev
  refine lv_aload_n hx hb dX1_init_36 rfl (lv_at hl 0 rfl) ?_
  refine lv_iconst (v := (0 : Int32)) hx hb dX1_init_37 (by decide) ?_
  obtain ⟨ca, hf⟩ := m_chkPE hf
  replace ca := z_in hM (by decide) ca
  refine z_putI (k := 1) (j := 3) (C := RX1) (T := TX1) (N := 8) (fl := zf_1) (ty := .int) X hw_X1_init_1 tyX1_ok nmX1 hM rfl zc_1 ca (by decide) fl_X1_init_1_3 rfl (tyX1_ok 3 (by decide)) rfl rfl zi_1_3 (Nat.le_of_ble_eq_true rfl) dX1_init_38 (fun H locs hM => ?_)
  clear ca
  obtain ⟨S26, ev, hf⟩ := m_bndPE hf
  replace hM := z_hS hM ev
  clear ev
  refine lv_aload_n hx hb dX1_init_41 rfl (lv_at hl 0 rfl) ?_
  refine lv_bipush (v := (8 : Int32)) hx hb dX1_init_42 (by decide) ?_
  obtain ⟨cd, hf⟩ := m_chkPE hf
  obtain ⟨hcm, ho⟩ := hf
  refine z_newR (k := 17) (t0 := 4) (C := RX10) X hM (fun _ _ _ _ _ => rfl) rfl na_X1_init_33.1 na_X1_init_33.2 cd.1 cd.2 ⟨by show kc - (C23) + 1 ≤ kc; omega, by show kt - (T24) + _ ≤ kt; omega⟩ dX1_init_44 (fun q27 H hq hM => ?_)
  replace hf := ho q27 hq
  refine z_eqCS (c2 := kc - (C23 - 1)) (t2 := kt - (T24 - ((8 : Int32)).toNatClampNeg)) (by omega) (by omega) ?_
  replace hCT : C23 - 1 ≤ kc ∧ T24 - ((8 : Int32)).toNatClampNeg ≤ kt := by omega
  generalize C23 - 1 = C29 at hf hCT ⊢
  generalize T24 - ((8 : Int32)).toNatClampNeg = T30 at hf hCT ⊢
  obtain ⟨S28, ev, hf⟩ := m_bndPE hf
  replace hM := z_hS hM ev
  clear ev ho hcm cd hq
  obtain ⟨ca, hf⟩ := m_chkPE hf
  replace ca := z_in hM (by decide) ca
  refine z_putPF (k := 1) (j := 4) (C := RX1) (T := TX1) (N := 8) (fl := zf_1) (ty := tyX1 4) X hw_X1_init_1 tyX1_ok nmX1 hM rfl zc_1 ca (by decide) fl_X1_init_1_4 rfl hin rfl (tyX1_ok 4 (by decide)) rfl rfl zp_1_4 (Nat.le_of_ble_eq_true rfl) dX1_init_47 (fun H locs hM => ?_)
  clear ca
  obtain ⟨S31, ev, hf⟩ := m_bndPE hf
  replace hM := z_hS hM ev
  clear ev
  refine lv_aload_n hx hb dX1_init_50 rfl (lv_at hl 0 rfl) ?_
  refine lv_iconst (v := (0 : Int32)) hx hb dX1_init_51 (by decide) ?_
  obtain ⟨ca, hf⟩ := m_chkPE hf
  replace ca := z_in hM (by decide) ca
  refine z_putI (k := 1) (j := 5) (C := RX1) (T := TX1) (N := 8) (fl := zf_1) (ty := .int) X hw_X1_init_1 tyX1_ok nmX1 hM rfl zc_1 ca (by decide) fl_X1_init_1_5 rfl (tyX1_ok 5 (by decide)) rfl rfl zi_1_5 (Nat.le_of_ble_eq_true rfl) dX1_init_52 (fun H locs hM => ?_)
  clear ca
  obtain ⟨S32, ev, hf⟩ := m_bndPE hf
  replace hM := z_hS hM ev
  clear ev
  refine lv_aload_n hx hb dX1_init_55 rfl (lv_at hl 0 rfl) ?_
  refine lv_iconst (v := (0 : Int32)) hx hb dX1_init_56 (by decide) ?_
  obtain ⟨ca, hf⟩ := m_chkPE hf
  replace ca := z_in hM (by decide) ca
  refine z_putI (k := 1) (j := 6) (C := RX1) (T := TX1) (N := 8) (fl := zf_1) (ty := .int) X hw_X1_init_1 tyX1_ok nmX1 hM rfl zc_1 ca (by decide) fl_X1_init_1_6 rfl (tyX1_ok 6 (by decide)) rfl rfl zi_1_6 (Nat.le_of_ble_eq_true rfl) dX1_init_57 (fun H locs hM => ?_)
  clear ca
  obtain ⟨S33, ev, hf⟩ := m_bndPE hf
  replace hM := z_hS hM ev
  clear ev
  refine lv_aload_n hx hb dX1_init_60 rfl (lv_at hl 0 rfl) ?_
  refine lv_sipush (v := (301 : Int32)) hx hb dX1_init_61 (by decide) ?_
  obtain ⟨cd, hf⟩ := m_chkPE hf
  obtain ⟨hcm, ho⟩ := hf
  refine z_newI X hM ar_X1_init_int cd.1 cd.2 ⟨by show kc - (C29) + 1 ≤ kc; omega, by show kt - (T30) + _ ≤ kt; omega⟩ dX1_init_64 (fun q34 H hq hM => ?_)
  replace hf := ho q34 hq
  refine z_eqCS (c2 := kc - (C29 - 1)) (t2 := kt - (T30 - ((301 : Int32)).toNatClampNeg)) (by omega) (by omega) ?_
  replace hCT : C29 - 1 ≤ kc ∧ T30 - ((301 : Int32)).toNatClampNeg ≤ kt := by omega
  generalize C29 - 1 = C36 at hf hCT ⊢
  generalize T30 - ((301 : Int32)).toNatClampNeg = T37 at hf hCT ⊢
  obtain ⟨S35, ev, hf⟩ := m_bndPE hf
  replace hM := z_hS hM ev
  clear ev ho hcm cd hq
  obtain ⟨ca, hf⟩ := m_chkPE hf
  replace ca := z_in hM (by decide) ca
  refine z_putPF (k := 1) (j := 7) (C := RX1) (T := TX1) (N := 8) (fl := zf_1) (ty := tyX1 7) X hw_X1_init_1 tyX1_ok nmX1 hM rfl zc_1 ca (by decide) fl_X1_init_1_7 rfl hin rfl (tyX1_ok 7 (by decide)) rfl rfl zp_1_7 (Nat.le_of_ble_eq_true rfl) dX1_init_66 (fun H locs hM => ?_)
  clear ca
  obtain ⟨S38, ev, hf⟩ := m_bndPE hf
  replace hM := z_hS hM ev
  clear ev
  refine lv_aload_n hx hb dX1_init_69 rfl (lv_at hl 0 rfl) ?_
  obtain ⟨ca, hf⟩ := m_chkPE hf
  replace ca := z_in hM (by decide) ca
  refine z_get (k := 1) (j := 0) (C := RX1) (T := TX1) (N := 8) (fl := zf_1) (v := va_rf ((zP S38 0 x0).map (zh y))) X hw_X1_init_1 hM rfl zc_1 ca (by decide) fl_X1_init_1_0 rfl dX1_init_70 ?_
  clear ca
  obtain ⟨b39, hb9, hf⟩ := m_calPE hf
  refine z_topr hb9 ?_
  clear hb9
  obtain ⟨ca, hf⟩ := m_chkPE hf
  replace ca := z_in hM (by decide) ca
  obtain ⟨o40, ho, hf⟩ := m_calPE hf
  refine z_gcallVv (k := 0) (C := RX0) (T := TX0) (N := 7) (fl := zf_0) X hM rfl zc_0 ca (c_X0_setUp ho) gX1_init_X0_setUp rfl ⟨rfl, rfl⟩ hd_X0_setUp ⟨Nat.le_of_ble_eq_true rfl, Nat.le_of_ble_eq_true rfl⟩ rfl hl.1 rfl ⟨Nat.sub_le _ _, Nat.sub_le _ _⟩ (Nat.le_of_ble_eq_true rfl) dX1_init_73 (fun H locs hM => ?_)
  clear ho
  exact hret _ _ _ H locs _ ls hf hM dX1_init_76
noncomputable def g_X1_init (x0 : Nat) (S : ZS) (mc ms : Nat) (Pw : Int32 → ZS → Prop) : Prop := g_X1_init_0 Pw x0 S mc ms
theorem c_X1_init {l : Launch} {D : va_G} {y : Nat → ClassId} {x0 : Nat} {S : ZS} {kc kt : Nat} {Pw : Int32 → ZS → Prop} (hf : g_X1_init x0 S kc kt Pw) : zWv l yX1_init wsX1_init ({ frames := 3, cells := kc, slots := kt, locals := 64 } : Room) [.ref (zh y x0)] D y S kc kt Pw :=
  z_wentC (own := RX1) (cc := cX1_init) (maxL := 1) (by decide) rfl rfl (Nat.le_of_ble_eq_true rfl) ⟨rfl, rfl⟩ rfl (fun p e s m args below meth c A0 Q H locs ls X hin hret hM hl => w_X1_init_0 X hin hret hf ⟨Nat.le_refl _, Nat.le_refl _⟩ hM (lv_sub hl [0] rfl))
theorem hd_X6_keep : yX6_keep.cls = RX6 ∧ yX6_keep.cls ≠ "java/lang/invoke/MethodHandle" ∧ yX6_keep.cls ≠ "java/lang/invoke/VarHandle" ∧ (parseMethodDescriptor yX6_keep.desc).map (fun d => d.parameters.length) = some 1 := by decide +kernel
theorem fl_X6_keep_6_1 : Cond.fieldLink RX6 16 "MoveTexts$Row" "length" "I" ∈ wsX6_keep := by decide +kernel
theorem hw_X6_keep_6 : ∀ w ∈ wsX60, w ∈ wsX6_keep := by decide +kernel
noncomputable def f_X6_keep_17 (S : ZS) : Option (Int32 × ZS) :=
  some (0, S)

set_option maxRecDepth 100000 in
set_option maxHeartbeats 4000000 in
theorem w_X6_keep_17 {p : Program} {l : Launch} {e : Env} {s : State} {m : MethodId} {args : Array Value} {below : List Frame} {meth : Method} {c : Code} {Q : State → Prop} {D : va_G} {y : Nat → ClassId} {A0 : Nat → Prop} {o : Int32 × ZS} (X : CallFix p m c cX6_keep 2 s args wsX6_keep RX6) (hret : zRv p l e ({ frames := 0, cells := 0, slots := 0, locals := 0 } : Room) s m args below meth c Q cX6_keep D y A0 o) {S : ZS} {H : Heap} {locs : List Loc} {ls : Array Slot} (hf : f_X6_keep_17  S = some o) (hM : zH D y A0 s H locs S) (hl : lv_has ls 2 []) : W p l e ({ frames := 0, cells := 0, slots := 0, locals := 0 } : Room) s m args below meth c H locs 0 0 Q (F0 m 17 ls []) := by
  obtain ⟨hx, hb, hml, hown, hts⟩ := id X
  unfold f_X6_keep_17 at hf
  cases hf
  exact hret H locs _ ls hM dX6_keep_17
noncomputable def f_X6_keep_0 (x0 : Nat) (x1 : Int32) (S : ZS) : Option (Int32 × ZS) :=
  m_if (x1 < 0) (
  f_X6_keep_17  S
  ) (
  m_chk (zK S x0 = 6) (
  m_if ((zI S 1 x0) ≤ x1) (
  f_X6_keep_17  S
  ) (
  m_chk (zK S x0 = 6) (
  m_bnd (zsI S 1 x0 x1) (fun S1 =>
  f_X6_keep_17  S1))
  ))
  )

set_option maxRecDepth 100000 in
set_option maxHeartbeats 4000000 in
theorem w_X6_keep_0 {p : Program} {l : Launch} {e : Env} {s : State} {m : MethodId} {args : Array Value} {below : List Frame} {meth : Method} {c : Code} {Q : State → Prop} {D : va_G} {y : Nat → ClassId} {A0 : Nat → Prop} {o : Int32 × ZS} (X : CallFix p m c cX6_keep 2 s args wsX6_keep RX6) (hret : zRv p l e ({ frames := 0, cells := 0, slots := 0, locals := 0 } : Room) s m args below meth c Q cX6_keep D y A0 o) {x0 : Nat} {x1 : Int32} {S : ZS} {H : Heap} {locs : List Loc} {ls : Array Slot} (hf : f_X6_keep_0 x0 x1 S = some o) (hM : zH D y A0 s H locs S) (hl : lv_has ls 2 [(0, .ref (zh y x0)), (1, .int x1)]) : W p l e ({ frames := 0, cells := 0, slots := 0, locals := 0 } : Room) s m args below meth c H locs 0 0 Q (F0 m 0 ls []) := by
  obtain ⟨hx, hb, hml, hown, hts⟩ := id X
  unfold f_X6_keep_0 at hf
  refine lv_iload_n hx hb dX6_keep_0 rfl (lv_at hl 1 rfl) ?_
  refine lv_if_lt (tgt := 17) hx hb dX6_keep_1 (by decide) (fun cc1 => ?_) (fun cc1 => ?_)
  · replace hf := m_ifT hf cc1
    exact w_X6_keep_17 X hret hf hM (lv_sub hl [] rfl)
  · replace hf := m_ifF hf cc1
    refine lv_iload_n hx hb dX6_keep_4 rfl (lv_at hl 1 rfl) ?_
    refine lv_aload_n hx hb dX6_keep_5 rfl (lv_at hl 0 rfl) ?_
    obtain ⟨ca, hf⟩ := m_chkE hf
    replace ca := z_in hM (by decide) ca
    refine z_get (k := 6) (j := 1) (C := RX6) (T := TX6) (N := 2) (fl := zf_6) (v := .int (zI S 1 x0)) X hw_X6_keep_6 hM rfl zc_6 ca (by decide) fl_X6_keep_6_1 rfl dX6_keep_6 ?_
    clear ca
    refine lv_icmp_ge (tgt := 17) hx hb dX6_keep_9 (by decide) (fun cc1 => ?_) (fun cc1 => ?_)
    · replace hf := m_ifT hf cc1
      exact w_X6_keep_17 X hret hf hM (lv_sub hl [] rfl)
    · replace hf := m_ifF hf cc1
      refine lv_aload_n hx hb dX6_keep_12 rfl (lv_at hl 0 rfl) ?_
      refine lv_iload_n hx hb dX6_keep_13 rfl (lv_at hl 1 rfl) ?_
      obtain ⟨ca, hf⟩ := m_chkE hf
      replace ca := z_in hM (by decide) ca
      refine z_putI (k := 6) (j := 1) (C := RX6) (T := TX6) (N := 2) (fl := zf_6) (ty := .int) X hw_X6_keep_6 tyX6_ok nmX6 hM rfl zc_6 ca (by decide) fl_X6_keep_6_1 rfl (tyX6_ok 1 (by decide)) rfl rfl zi_6_1 (Nat.le_of_ble_eq_true rfl) dX6_keep_14 (fun H locs hM => ?_)
      clear ca
      obtain ⟨S1, ev, hf⟩ := m_bndE hf
      replace hM := z_hS hM ev
      clear ev
      exact w_X6_keep_17 X hret hf hM (lv_sub hl [] rfl)
noncomputable def f_X6_keep (x0 : Nat) (x1 : Int32) (S : ZS) : Option (Int32 × ZS) := f_X6_keep_0 x0 x1 S
theorem c_X6_keep {l : Launch} {D : va_G} {y : Nat → ClassId} {x0 : Nat} {x1 : Int32} {S : ZS} {o : Int32 × ZS} (hf : f_X6_keep x0 x1 S = some o) : zMv l yX6_keep wsX6_keep ({ frames := 0, cells := 0, slots := 0, locals := 0 } : Room) [.ref (zh y x0), .int x1] D y S o :=
  z_entryV (own := RX6) (cc := cX6_keep) (maxL := 2) (by decide) rfl rfl (Nat.le_of_ble_eq_true rfl) (fun p e s m args below meth c A0 Q H locs ls X hret hM hl => w_X6_keep_0 X hret hf hM (lv_sub hl [0, 1] rfl))
theorem hd_X4_become : yX4_become.cls = RX4 ∧ yX4_become.cls ≠ "java/lang/invoke/MethodHandle" ∧ yX4_become.cls ≠ "java/lang/invoke/VarHandle" ∧ (parseMethodDescriptor yX4_become.desc).map (fun d => d.parameters.length) = some 2 := by decide +kernel
theorem fl_X4_become_4_0 : Cond.fieldLink RX4 9 "MoveTexts$Node" "parent" "I" ∈ wsX4_become := by decide +kernel
theorem fl_X4_become_4_1 : Cond.fieldLink RX4 15 "MoveTexts$Node" "move" "I" ∈ wsX4_become := by decide +kernel
theorem fl_X4_become_4_2 : Cond.fieldLink RX4 18 "MoveTexts$Node" "first" "I" ∈ wsX4_become := by decide +kernel
theorem fl_X4_become_4_3 : Cond.fieldLink RX4 21 "MoveTexts$Node" "next" "I" ∈ wsX4_become := by decide +kernel
theorem fl_X4_become_4_4 : Cond.fieldLink RX4 24 "MoveTexts$Node" "markCount" "I" ∈ wsX4_become := by decide +kernel
theorem fl_X4_become_4_5 : Cond.fieldLink RX4 27 "MoveTexts$Node" "marks" "I" ∈ wsX4_become := by decide +kernel
theorem fl_X4_become_4_6 : Cond.fieldLink RX4 33 "MoveTexts$Node" "remark" "LMoveTexts$Row;" ∈ wsX4_become := by decide +kernel
theorem hw_X4_become_4 : ∀ w ∈ wsX40, w ∈ wsX4_become := by decide +kernel
noncomputable def f_X4_become_0 (x0 : Nat) (x1 : Int32) (x2 : Int32) (S : ZS) : Option (Int32 × ZS) :=
  m_chk (zK S x0 = 4) (
  m_bnd (zsI S 0 x0 x1) (fun S1 =>
  m_chk (zK S1 x0 = 4) (
  m_bnd (zsI S1 1 x0 x2) (fun S2 =>
  m_chk (zK S2 x0 = 4) (
  m_bnd (zsI S2 2 x0 (-1 : Int32)) (fun S3 =>
  m_chk (zK S3 x0 = 4) (
  m_bnd (zsI S3 3 x0 (-1 : Int32)) (fun S4 =>
  m_chk (zK S4 x0 = 4) (
  m_bnd (zsI S4 4 x0 (0 : Int32)) (fun S5 =>
  m_chk (zK S5 x0 = 4) (
  m_bnd (zsI S5 5 x0 (0 : Int32)) (fun S6 =>
  m_chk (zK S6 x0 = 4) (
  m_cal (zP S6 6 x0) (fun b7 =>
  m_chk (zK S6 b7 = 6) (
  m_cal (f_X6_keep b7 (0 : Int32) S6) (fun o8 =>
  some (0, o8.2)))))))))))))))))

set_option maxRecDepth 100000 in
set_option maxHeartbeats 4000000 in
theorem w_X4_become_0 {p : Program} {l : Launch} {e : Env} {s : State} {m : MethodId} {args : Array Value} {below : List Frame} {meth : Method} {c : Code} {Q : State → Prop} {D : va_G} {y : Nat → ClassId} {A0 : Nat → Prop} {o : Int32 × ZS} (X : CallFix p m c cX4_become 3 s args wsX4_become RX4) (hret : zRv p l e ({ frames := 1, cells := 0, slots := 0, locals := 21 } : Room) s m args below meth c Q cX4_become D y A0 o) {x0 : Nat} {x1 : Int32} {x2 : Int32} {S : ZS} {H : Heap} {locs : List Loc} {ls : Array Slot} (hf : f_X4_become_0 x0 x1 x2 S = some o) (hM : zH D y A0 s H locs S) (hl : lv_has ls 3 [(0, .ref (zh y x0)), (1, .int x1), (2, .int x2)]) : W p l e ({ frames := 1, cells := 0, slots := 0, locals := 21 } : Room) s m args below meth c H locs 0 0 Q (F0 m 0 ls []) := by
  obtain ⟨hx, hb, hml, hown, hts⟩ := id X
  unfold f_X4_become_0 at hf
  refine lv_aload_n hx hb dX4_become_0 rfl (lv_at hl 0 rfl) ?_
  refine lv_iload_n hx hb dX4_become_1 rfl (lv_at hl 1 rfl) ?_
  obtain ⟨ca, hf⟩ := m_chkE hf
  replace ca := z_in hM (by decide) ca
  refine z_putI (k := 4) (j := 0) (C := RX4) (T := TX4) (N := 7) (fl := zf_4) (ty := .int) X hw_X4_become_4 tyX4_ok nmX4 hM rfl zc_4 ca (by decide) fl_X4_become_4_0 rfl (tyX4_ok 0 (by decide)) rfl rfl zi_4_0 (Nat.le_of_ble_eq_true rfl) dX4_become_2 (fun H locs hM => ?_)
  clear ca
  obtain ⟨S1, ev, hf⟩ := m_bndE hf
  replace hM := z_hS hM ev
  clear ev
  refine lv_aload_n hx hb dX4_become_5 rfl (lv_at hl 0 rfl) ?_
  refine lv_iload_n hx hb dX4_become_6 rfl (lv_at hl 2 rfl) ?_
  obtain ⟨ca, hf⟩ := m_chkE hf
  replace ca := z_in hM (by decide) ca
  refine z_putI (k := 4) (j := 1) (C := RX4) (T := TX4) (N := 7) (fl := zf_4) (ty := .int) X hw_X4_become_4 tyX4_ok nmX4 hM rfl zc_4 ca (by decide) fl_X4_become_4_1 rfl (tyX4_ok 1 (by decide)) rfl rfl zi_4_1 (Nat.le_of_ble_eq_true rfl) dX4_become_7 (fun H locs hM => ?_)
  clear ca
  obtain ⟨S2, ev, hf⟩ := m_bndE hf
  replace hM := z_hS hM ev
  clear ev
  refine lv_aload_n hx hb dX4_become_10 rfl (lv_at hl 0 rfl) ?_
  refine lv_iconst (v := (-1 : Int32)) hx hb dX4_become_11 (by decide) ?_
  obtain ⟨ca, hf⟩ := m_chkE hf
  replace ca := z_in hM (by decide) ca
  refine z_putI (k := 4) (j := 2) (C := RX4) (T := TX4) (N := 7) (fl := zf_4) (ty := .int) X hw_X4_become_4 tyX4_ok nmX4 hM rfl zc_4 ca (by decide) fl_X4_become_4_2 rfl (tyX4_ok 2 (by decide)) rfl rfl zi_4_2 (Nat.le_of_ble_eq_true rfl) dX4_become_12 (fun H locs hM => ?_)
  clear ca
  obtain ⟨S3, ev, hf⟩ := m_bndE hf
  replace hM := z_hS hM ev
  clear ev
  refine lv_aload_n hx hb dX4_become_15 rfl (lv_at hl 0 rfl) ?_
  refine lv_iconst (v := (-1 : Int32)) hx hb dX4_become_16 (by decide) ?_
  obtain ⟨ca, hf⟩ := m_chkE hf
  replace ca := z_in hM (by decide) ca
  refine z_putI (k := 4) (j := 3) (C := RX4) (T := TX4) (N := 7) (fl := zf_4) (ty := .int) X hw_X4_become_4 tyX4_ok nmX4 hM rfl zc_4 ca (by decide) fl_X4_become_4_3 rfl (tyX4_ok 3 (by decide)) rfl rfl zi_4_3 (Nat.le_of_ble_eq_true rfl) dX4_become_17 (fun H locs hM => ?_)
  clear ca
  obtain ⟨S4, ev, hf⟩ := m_bndE hf
  replace hM := z_hS hM ev
  clear ev
  refine lv_aload_n hx hb dX4_become_20 rfl (lv_at hl 0 rfl) ?_
  refine lv_iconst (v := (0 : Int32)) hx hb dX4_become_21 (by decide) ?_
  obtain ⟨ca, hf⟩ := m_chkE hf
  replace ca := z_in hM (by decide) ca
  refine z_putI (k := 4) (j := 4) (C := RX4) (T := TX4) (N := 7) (fl := zf_4) (ty := .int) X hw_X4_become_4 tyX4_ok nmX4 hM rfl zc_4 ca (by decide) fl_X4_become_4_4 rfl (tyX4_ok 4 (by decide)) rfl rfl zi_4_4 (Nat.le_of_ble_eq_true rfl) dX4_become_22 (fun H locs hM => ?_)
  clear ca
  obtain ⟨S5, ev, hf⟩ := m_bndE hf
  replace hM := z_hS hM ev
  clear ev
  refine lv_aload_n hx hb dX4_become_25 rfl (lv_at hl 0 rfl) ?_
  refine lv_iconst (v := (0 : Int32)) hx hb dX4_become_26 (by decide) ?_
  obtain ⟨ca, hf⟩ := m_chkE hf
  replace ca := z_in hM (by decide) ca
  refine z_putI (k := 4) (j := 5) (C := RX4) (T := TX4) (N := 7) (fl := zf_4) (ty := .int) X hw_X4_become_4 tyX4_ok nmX4 hM rfl zc_4 ca (by decide) fl_X4_become_4_5 rfl (tyX4_ok 5 (by decide)) rfl rfl zi_4_5 (Nat.le_of_ble_eq_true rfl) dX4_become_27 (fun H locs hM => ?_)
  clear ca
  obtain ⟨S6, ev, hf⟩ := m_bndE hf
  replace hM := z_hS hM ev
  clear ev
  refine lv_aload_n hx hb dX4_become_30 rfl (lv_at hl 0 rfl) ?_
  obtain ⟨ca, hf⟩ := m_chkE hf
  replace ca := z_in hM (by decide) ca
  refine z_get (k := 4) (j := 6) (C := RX4) (T := TX4) (N := 7) (fl := zf_4) (v := va_rf ((zP S6 6 x0).map (zh y))) X hw_X4_become_4 hM rfl zc_4 ca (by decide) fl_X4_become_4_6 rfl dX4_become_31 ?_
  clear ca
  obtain ⟨b7, hb9, hf⟩ := m_calE hf
  refine z_topr hb9 ?_
  clear hb9
  refine lv_iconst (v := (0 : Int32)) hx hb dX4_become_34 (by decide) ?_
  obtain ⟨ca, hf⟩ := m_chkE hf
  replace ca := z_in hM (by decide) ca
  obtain ⟨o8, ho, hf⟩ := m_calE hf
  refine z_callVv (k := 6) (C := RX6) (T := TX6) (N := 2) (fl := zf_6) X hM rfl zc_6 ca (c_X6_keep ho) gX4_become_X6_keep rfl ⟨rfl, rfl⟩ hd_X6_keep ⟨Nat.le_of_ble_eq_true rfl, Nat.le_of_ble_eq_true rfl⟩ rfl hl.1 rfl (Nat.le_of_ble_eq_true rfl) dX4_become_35 (fun H locs hM => ?_)
  clear ho
  cases hf
  exact hret H locs _ ls hM dX4_become_38
noncomputable def f_X4_become (x0 : Nat) (x1 : Int32) (x2 : Int32) (S : ZS) : Option (Int32 × ZS) := f_X4_become_0 x0 x1 x2 S
theorem c_X4_become {l : Launch} {D : va_G} {y : Nat → ClassId} {x0 : Nat} {x1 : Int32} {x2 : Int32} {S : ZS} {o : Int32 × ZS} (hf : f_X4_become x0 x1 x2 S = some o) : zMv l yX4_become wsX4_become ({ frames := 1, cells := 0, slots := 0, locals := 21 } : Room) [.ref (zh y x0), .int x1, .int x2] D y S o :=
  z_entryV (own := RX4) (cc := cX4_become) (maxL := 3) (by decide) rfl rfl (Nat.le_of_ble_eq_true rfl) (fun p e s m args below meth c A0 Q H locs ls X hret hM hl => w_X4_become_0 X hret hf hM (lv_sub hl [0, 1, 2] rfl))
theorem hd_X1_wipe : yX1_wipe.cls = RX1 ∧ yX1_wipe.cls ≠ "java/lang/invoke/MethodHandle" ∧ yX1_wipe.cls ≠ "java/lang/invoke/VarHandle" ∧ (parseMethodDescriptor yX1_wipe.desc).map (fun d => d.parameters.length) = some 0 := by decide +kernel
theorem fl_X1_wipe_1_0 : Cond.fieldLink RX1 12 "MoveTexts$Game" "start" "LMoveTexts$Board;" ∈ wsX1_wipe := by decide +kernel
theorem fl_X1_wipe_1_1 : Cond.fieldLink RX1 21 "MoveTexts$Game" "root" "LMoveTexts$Node;" ∈ wsX1_wipe := by decide +kernel
theorem fl_X1_wipe_1_3 : Cond.fieldLink RX1 29 "MoveTexts$Game" "greatest" "I" ∈ wsX1_wipe := by decide +kernel
theorem fl_X1_wipe_1_5 : Cond.fieldLink RX1 39 "MoveTexts$Game" "tagCount" "I" ∈ wsX1_wipe := by decide +kernel
theorem fl_X1_wipe_1_6 : Cond.fieldLink RX1 42 "MoveTexts$Game" "result" "I" ∈ wsX1_wipe := by decide +kernel
theorem hw_X1_wipe_1 : ∀ w ∈ wsX10, w ∈ wsX1_wipe := by decide +kernel
noncomputable def f_X1_wipe_0 (x0 : Nat) (S : ZS) : Option (Int32 × ZS) :=
  m_chk (zK S x0 = 1) (
  m_cal (zP S 0 x0) (fun b1 =>
  m_chk (zK S b1 = 0) (
  m_cal (f_X0_setUp b1 S) (fun o2 =>
  m_chk (zK o2.2 x0 = 1) (
  m_cal (zP o2.2 1 x0) (fun b3 =>
  m_chk (zK o2.2 b3 = 4) (
  m_cal (f_X4_become b3 (-1 : Int32) (-1 : Int32) o2.2) (fun o4 =>
  m_chk (zK o4.2 x0 = 1) (
  m_bnd (zsI o4.2 3 x0 (0 : Int32)) (fun S5 =>
  m_chk (zK S5 x0 = 1) (
  m_bnd (zsI S5 5 x0 (0 : Int32)) (fun S6 =>
  m_chk (zK S6 x0 = 1) (
  m_bnd (zsI S6 6 x0 (0 : Int32)) (fun S7 =>
  some (0, S7)))))))))))))))

set_option maxRecDepth 100000 in
set_option maxHeartbeats 4000000 in
theorem w_X1_wipe_0 {p : Program} {l : Launch} {e : Env} {s : State} {m : MethodId} {args : Array Value} {below : List Frame} {meth : Method} {c : Code} {Q : State → Prop} {D : va_G} {y : Nat → ClassId} {A0 : Nat → Prop} {o : Int32 × ZS} (X : CallFix p m c cX1_wipe 1 s args wsX1_wipe RX1) (hret : zRv p l e ({ frames := 2, cells := 0, slots := 0, locals := 43 } : Room) s m args below meth c Q cX1_wipe D y A0 o) {x0 : Nat} {S : ZS} {H : Heap} {locs : List Loc} {ls : Array Slot} (hf : f_X1_wipe_0 x0 S = some o) (hM : zH D y A0 s H locs S) (hl : lv_has ls 1 [(0, .ref (zh y x0))]) : W p l e ({ frames := 2, cells := 0, slots := 0, locals := 43 } : Room) s m args below meth c H locs 0 0 Q (F0 m 0 ls []) := by
  obtain ⟨hx, hb, hml, hown, hts⟩ := id X
  unfold f_X1_wipe_0 at hf
  refine lv_aload_n hx hb dX1_wipe_0 rfl (lv_at hl 0 rfl) ?_
  obtain ⟨ca, hf⟩ := m_chkE hf
  replace ca := z_in hM (by decide) ca
  refine z_get (k := 1) (j := 0) (C := RX1) (T := TX1) (N := 8) (fl := zf_1) (v := va_rf ((zP S 0 x0).map (zh y))) X hw_X1_wipe_1 hM rfl zc_1 ca (by decide) fl_X1_wipe_1_0 rfl dX1_wipe_1 ?_
  clear ca
  obtain ⟨b1, hb9, hf⟩ := m_calE hf
  refine z_topr hb9 ?_
  clear hb9
  obtain ⟨ca, hf⟩ := m_chkE hf
  replace ca := z_in hM (by decide) ca
  obtain ⟨o2, ho, hf⟩ := m_calE hf
  refine z_callVv (k := 0) (C := RX0) (T := TX0) (N := 7) (fl := zf_0) X hM rfl zc_0 ca (c_X0_setUp ho) gX1_wipe_X0_setUp rfl ⟨rfl, rfl⟩ hd_X0_setUp ⟨Nat.le_of_ble_eq_true rfl, Nat.le_of_ble_eq_true rfl⟩ rfl hl.1 rfl (Nat.le_of_ble_eq_true rfl) dX1_wipe_4 (fun H locs hM => ?_)
  clear ho
  refine lv_aload_n hx hb dX1_wipe_7 rfl (lv_at hl 0 rfl) ?_
  obtain ⟨ca, hf⟩ := m_chkE hf
  replace ca := z_in hM (by decide) ca
  refine z_get (k := 1) (j := 1) (C := RX1) (T := TX1) (N := 8) (fl := zf_1) (v := va_rf ((zP o2.2 1 x0).map (zh y))) X hw_X1_wipe_1 hM rfl zc_1 ca (by decide) fl_X1_wipe_1_1 rfl dX1_wipe_8 ?_
  clear ca
  obtain ⟨b3, hb9, hf⟩ := m_calE hf
  refine z_topr hb9 ?_
  clear hb9
  refine lv_iconst (v := (-1 : Int32)) hx hb dX1_wipe_11 (by decide) ?_
  refine lv_iconst (v := (-1 : Int32)) hx hb dX1_wipe_12 (by decide) ?_
  obtain ⟨ca, hf⟩ := m_chkE hf
  replace ca := z_in hM (by decide) ca
  obtain ⟨o4, ho, hf⟩ := m_calE hf
  refine z_callVv (k := 4) (C := RX4) (T := TX4) (N := 7) (fl := zf_4) X hM rfl zc_4 ca (c_X4_become ho) gX1_wipe_X4_become rfl ⟨rfl, rfl⟩ hd_X4_become ⟨Nat.le_of_ble_eq_true rfl, Nat.le_of_ble_eq_true rfl⟩ rfl hl.1 rfl (Nat.le_of_ble_eq_true rfl) dX1_wipe_13 (fun H locs hM => ?_)
  clear ho
  refine lv_aload_n hx hb dX1_wipe_16 rfl (lv_at hl 0 rfl) ?_
  refine lv_iconst (v := (0 : Int32)) hx hb dX1_wipe_17 (by decide) ?_
  obtain ⟨ca, hf⟩ := m_chkE hf
  replace ca := z_in hM (by decide) ca
  refine z_putI (k := 1) (j := 3) (C := RX1) (T := TX1) (N := 8) (fl := zf_1) (ty := .int) X hw_X1_wipe_1 tyX1_ok nmX1 hM rfl zc_1 ca (by decide) fl_X1_wipe_1_3 rfl (tyX1_ok 3 (by decide)) rfl rfl zi_1_3 (Nat.le_of_ble_eq_true rfl) dX1_wipe_18 (fun H locs hM => ?_)
  clear ca
  obtain ⟨S5, ev, hf⟩ := m_bndE hf
  replace hM := z_hS hM ev
  clear ev
  refine lv_aload_n hx hb dX1_wipe_21 rfl (lv_at hl 0 rfl) ?_
  refine lv_iconst (v := (0 : Int32)) hx hb dX1_wipe_22 (by decide) ?_
  obtain ⟨ca, hf⟩ := m_chkE hf
  replace ca := z_in hM (by decide) ca
  refine z_putI (k := 1) (j := 5) (C := RX1) (T := TX1) (N := 8) (fl := zf_1) (ty := .int) X hw_X1_wipe_1 tyX1_ok nmX1 hM rfl zc_1 ca (by decide) fl_X1_wipe_1_5 rfl (tyX1_ok 5 (by decide)) rfl rfl zi_1_5 (Nat.le_of_ble_eq_true rfl) dX1_wipe_23 (fun H locs hM => ?_)
  clear ca
  obtain ⟨S6, ev, hf⟩ := m_bndE hf
  replace hM := z_hS hM ev
  clear ev
  refine lv_aload_n hx hb dX1_wipe_26 rfl (lv_at hl 0 rfl) ?_
  refine lv_iconst (v := (0 : Int32)) hx hb dX1_wipe_27 (by decide) ?_
  obtain ⟨ca, hf⟩ := m_chkE hf
  replace ca := z_in hM (by decide) ca
  refine z_putI (k := 1) (j := 6) (C := RX1) (T := TX1) (N := 8) (fl := zf_1) (ty := .int) X hw_X1_wipe_1 tyX1_ok nmX1 hM rfl zc_1 ca (by decide) fl_X1_wipe_1_6 rfl (tyX1_ok 6 (by decide)) rfl rfl zi_1_6 (Nat.le_of_ble_eq_true rfl) dX1_wipe_28 (fun H locs hM => ?_)
  clear ca
  obtain ⟨S7, ev, hf⟩ := m_bndE hf
  replace hM := z_hS hM ev
  clear ev
  cases hf
  exact hret H locs _ ls hM dX1_wipe_31
noncomputable def f_X1_wipe (x0 : Nat) (S : ZS) : Option (Int32 × ZS) := f_X1_wipe_0 x0 S
theorem c_X1_wipe {l : Launch} {D : va_G} {y : Nat → ClassId} {x0 : Nat} {S : ZS} {o : Int32 × ZS} (hf : f_X1_wipe x0 S = some o) : zMv l yX1_wipe wsX1_wipe ({ frames := 2, cells := 0, slots := 0, locals := 43 } : Room) [.ref (zh y x0)] D y S o :=
  z_entryV (own := RX1) (cc := cX1_wipe) (maxL := 1) (by decide) rfl rfl (Nat.le_of_ble_eq_true rfl) (fun p e s m args below meth c A0 Q H locs ls X hret hM hl => w_X1_wipe_0 X hret hf hM (lv_sub hl [0] rfl))
theorem hd_X1_has : yX1_has.cls = RX1 ∧ yX1_has.cls ≠ "java/lang/invoke/MethodHandle" ∧ yX1_has.cls ≠ "java/lang/invoke/VarHandle" ∧ (parseMethodDescriptor yX1_has.desc).map (fun d => d.parameters.length) = some 1 := by decide +kernel
theorem fl_X1_has_1_3 : Cond.fieldLink RX1 29 "MoveTexts$Game" "greatest" "I" ∈ wsX1_has := by decide +kernel
theorem hw_X1_has_1 : ∀ w ∈ wsX10, w ∈ wsX1_has := by decide +kernel
noncomputable def f_X1_has_17 (t0 : Int32) (S : ZS) : Option (Int32 × ZS) :=
  m_chk (vp_nar .boolean t0 = t0) (some (t0, S))

set_option maxRecDepth 100000 in
set_option maxHeartbeats 4000000 in
theorem w_X1_has_17 {p : Program} {l : Launch} {e : Env} {s : State} {m : MethodId} {args : Array Value} {below : List Frame} {meth : Method} {c : Code} {Q : State → Prop} {D : va_G} {y : Nat → ClassId} {A0 : Nat → Prop} {o : Int32 × ZS} (X : CallFix p m c cX1_has 2 s args wsX1_has RX1) (hret : zRi p l e ({ frames := 0, cells := 0, slots := 0, locals := 0 } : Room) s m args below meth c Q cX1_has D y A0 .boolean o) {t0 : Int32} {S : ZS} {H : Heap} {locs : List Loc} {ls : Array Slot} (hf : f_X1_has_17 t0 S = some o) (hM : zH D y A0 s H locs S) (hl : lv_has ls 2 []) : W p l e ({ frames := 0, cells := 0, slots := 0, locals := 0 } : Room) s m args below meth c H locs 0 0 Q (F0 m 17 ls [.int t0]) := by
  obtain ⟨hx, hb, hml, hown, hts⟩ := id X
  unfold f_X1_has_17 at hf
  obtain ⟨cd, hf⟩ := m_chkE hf
  cases hf
  exact hret H locs _ ls hM (m_nb cd) dX1_has_17
noncomputable def f_X1_has_16 (S : ZS) : Option (Int32 × ZS) :=
  f_X1_has_17 (0 : Int32) S

set_option maxRecDepth 100000 in
set_option maxHeartbeats 4000000 in
theorem w_X1_has_16 {p : Program} {l : Launch} {e : Env} {s : State} {m : MethodId} {args : Array Value} {below : List Frame} {meth : Method} {c : Code} {Q : State → Prop} {D : va_G} {y : Nat → ClassId} {A0 : Nat → Prop} {o : Int32 × ZS} (X : CallFix p m c cX1_has 2 s args wsX1_has RX1) (hret : zRi p l e ({ frames := 0, cells := 0, slots := 0, locals := 0 } : Room) s m args below meth c Q cX1_has D y A0 .boolean o) {S : ZS} {H : Heap} {locs : List Loc} {ls : Array Slot} (hf : f_X1_has_16  S = some o) (hM : zH D y A0 s H locs S) (hl : lv_has ls 2 []) : W p l e ({ frames := 0, cells := 0, slots := 0, locals := 0 } : Room) s m args below meth c H locs 0 0 Q (F0 m 16 ls []) := by
  obtain ⟨hx, hb, hml, hown, hts⟩ := id X
  unfold f_X1_has_16 at hf
  refine lv_iconst (v := (0 : Int32)) hx hb dX1_has_16 (by decide) ?_
  exact w_X1_has_17 (t0 := (0 : Int32)) X hret hf hM (lv_sub hl [] rfl)
noncomputable def f_X1_has_0 (x0 : Nat) (x1 : Int32) (S : ZS) : Option (Int32 × ZS) :=
  m_if (x1 < 0) (
  f_X1_has_16  S
  ) (
  m_chk (zK S x0 = 1) (
  m_if ((zI S 3 x0) < x1) (
  f_X1_has_16  S
  ) (
  f_X1_has_17 (1 : Int32) S
  ))
  )

set_option maxRecDepth 100000 in
set_option maxHeartbeats 4000000 in
theorem w_X1_has_0 {p : Program} {l : Launch} {e : Env} {s : State} {m : MethodId} {args : Array Value} {below : List Frame} {meth : Method} {c : Code} {Q : State → Prop} {D : va_G} {y : Nat → ClassId} {A0 : Nat → Prop} {o : Int32 × ZS} (X : CallFix p m c cX1_has 2 s args wsX1_has RX1) (hret : zRi p l e ({ frames := 0, cells := 0, slots := 0, locals := 0 } : Room) s m args below meth c Q cX1_has D y A0 .boolean o) {x0 : Nat} {x1 : Int32} {S : ZS} {H : Heap} {locs : List Loc} {ls : Array Slot} (hf : f_X1_has_0 x0 x1 S = some o) (hM : zH D y A0 s H locs S) (hl : lv_has ls 2 [(0, .ref (zh y x0)), (1, .int x1)]) : W p l e ({ frames := 0, cells := 0, slots := 0, locals := 0 } : Room) s m args below meth c H locs 0 0 Q (F0 m 0 ls []) := by
  obtain ⟨hx, hb, hml, hown, hts⟩ := id X
  unfold f_X1_has_0 at hf
  refine lv_iload_n hx hb dX1_has_0 rfl (lv_at hl 1 rfl) ?_
  refine lv_if_lt (tgt := 16) hx hb dX1_has_1 (by decide) (fun cc1 => ?_) (fun cc1 => ?_)
  · replace hf := m_ifT hf cc1
    exact w_X1_has_16 X hret hf hM (lv_sub hl [] rfl)
  · replace hf := m_ifF hf cc1
    refine lv_iload_n hx hb dX1_has_4 rfl (lv_at hl 1 rfl) ?_
    refine lv_aload_n hx hb dX1_has_5 rfl (lv_at hl 0 rfl) ?_
    obtain ⟨ca, hf⟩ := m_chkE hf
    replace ca := z_in hM (by decide) ca
    refine z_get (k := 1) (j := 3) (C := RX1) (T := TX1) (N := 8) (fl := zf_1) (v := .int (zI S 3 x0)) X hw_X1_has_1 hM rfl zc_1 ca (by decide) fl_X1_has_1_3 rfl dX1_has_6 ?_
    clear ca
    refine lv_icmp_gt (tgt := 16) hx hb dX1_has_9 (by decide) (fun cc1 => ?_) (fun cc1 => ?_)
    · replace hf := m_ifT hf cc1
      exact w_X1_has_16 X hret hf hM (lv_sub hl [] rfl)
    · replace hf := m_ifF hf cc1
      refine lv_iconst (v := (1 : Int32)) hx hb dX1_has_12 (by decide) ?_
      refine lv_goto (tgt := 17) hx hb dX1_has_13 (by decide) ?_
      exact w_X1_has_17 (t0 := (1 : Int32)) X hret hf hM (lv_sub hl [] rfl)
noncomputable def f_X1_has (x0 : Nat) (x1 : Int32) (S : ZS) : Option (Int32 × ZS) := f_X1_has_0 x0 x1 S
theorem c_X1_has {l : Launch} {D : va_G} {y : Nat → ClassId} {x0 : Nat} {x1 : Int32} {S : ZS} {o : Int32 × ZS} (hf : f_X1_has x0 x1 S = some o) : zMi l yX1_has wsX1_has ({ frames := 0, cells := 0, slots := 0, locals := 0 } : Room) [.ref (zh y x0), .int x1] D y S o :=
  z_entryI (own := RX1) (cc := cX1_has) (maxL := 2) (by decide) rfl rfl (Nat.le_of_ble_eq_true rfl) (fun p e s m args below meth c A0 Q H locs ls X hret hM hl => w_X1_has_0 X hret hf hM (lv_sub hl [0, 1] rfl))
theorem hd_X1_at : yX1_at.cls = RX1 ∧ yX1_at.cls ≠ "java/lang/invoke/MethodHandle" ∧ yX1_at.cls ≠ "java/lang/invoke/VarHandle" ∧ (parseMethodDescriptor yX1_at.desc).map (fun d => d.parameters.length) = some 1 := by decide +kernel
theorem fl_X1_at_1_1 : Cond.fieldLink RX1 21 "MoveTexts$Game" "root" "LMoveTexts$Node;" ∈ wsX1_at := by decide +kernel
theorem fl_X1_at_1_2 : Cond.fieldLink RX1 25 "MoveTexts$Game" "others" "[LMoveTexts$Node;" ∈ wsX1_at := by decide +kernel
theorem fl_X1_at_1_3 : Cond.fieldLink RX1 29 "MoveTexts$Game" "greatest" "I" ∈ wsX1_at := by decide +kernel
theorem hw_X1_at_1 : ∀ w ∈ wsX10, w ∈ wsX1_at := by decide +kernel
noncomputable def f_X1_at_35 (t0 : Option Nat) (S : ZS) : Option (Nat × ZS) :=
  m_cal t0 (fun b1 => some (b1, S))

set_option maxRecDepth 100000 in
set_option maxHeartbeats 4000000 in
theorem w_X1_at_35 {p : Program} {l : Launch} {e : Env} {s : State} {m : MethodId} {args : Array Value} {below : List Frame} {meth : Method} {c : Code} {Q : State → Prop} {D : va_G} {y : Nat → ClassId} {A0 : Nat → Prop} {o : Nat × ZS} (X : CallFix p m c cX1_at 3 s args wsX1_at RX1) (hret : zRr p l e ({ frames := 0, cells := 0, slots := 0, locals := 0 } : Room) s m args below meth c Q cX1_at D y A0 (zh y o.1, o.2)) {t0 : Option Nat} {S : ZS} {H : Heap} {locs : List Loc} {ls : Array Slot} (hf : f_X1_at_35 t0 S = some o) (hM : zH D y A0 s H locs S) (hl : lv_has ls 3 []) : W p l e ({ frames := 0, cells := 0, slots := 0, locals := 0 } : Room) s m args below meth c H locs 0 0 Q (F0 m 35 ls [va_rf ((t0).map (zh y))]) := by
  obtain ⟨hx, hb, hml, hown, hts⟩ := id X
  unfold f_X1_at_35 at hf
  obtain ⟨b1, hb9, hf⟩ := m_calE hf
  refine z_topr hb9 ?_
  cases hf
  exact hret H locs _ ls hM dX1_at_35
noncomputable def f_X1_at_22 (x0 : Nat) (t0 : Option Nat) (S : ZS) : Option (Nat × ZS) :=
  m_opt t0 (
  m_chk (zK S x0 = 1) (
  m_cal (zP S 1 x0) (fun b2 =>
  f_X1_at_35 (some b2) S))
  ) (fun b1 =>
  f_X1_at_35 (some b1) S
  )

set_option maxRecDepth 100000 in
set_option maxHeartbeats 4000000 in
theorem w_X1_at_22 {p : Program} {l : Launch} {e : Env} {s : State} {m : MethodId} {args : Array Value} {below : List Frame} {meth : Method} {c : Code} {Q : State → Prop} {D : va_G} {y : Nat → ClassId} {A0 : Nat → Prop} {o : Nat × ZS} (X : CallFix p m c cX1_at 3 s args wsX1_at RX1) (hret : zRr p l e ({ frames := 0, cells := 0, slots := 0, locals := 0 } : Room) s m args below meth c Q cX1_at D y A0 (zh y o.1, o.2)) {x0 : Nat} {t0 : Option Nat} {S : ZS} {H : Heap} {locs : List Loc} {ls : Array Slot} (hf : f_X1_at_22 x0 t0 S = some o) (hM : zH D y A0 s H locs S) (hl : lv_has ls 3 [(0, .ref (zh y x0))]) : W p l e ({ frames := 0, cells := 0, slots := 0, locals := 0 } : Room) s m args below meth c H locs 0 0 Q (F0 m 22 ls [va_rf ((t0).map (zh y))]) := by
  obtain ⟨hx, hb, hml, hown, hts⟩ := id X
  unfold f_X1_at_22 at hf
  cases t0 with
  | none =>
    replace hf := m_optN hf
    refine lv_astore_nN (lv' := [(2, .null), (0, .ref (zh y x0))]) hx hb dX1_at_22 rfl hl (by decide) rfl (fun ls hl => ?_)
    refine lv_aload_nN hx hb dX1_at_23 rfl (lv_at hl 0 rfl) ?_
    refine lv_ifnullN (tgt := 31) hx hb dX1_at_24 (by decide) ?_
    refine lv_aload_n hx hb dX1_at_31 rfl (lv_at hl 1 rfl) ?_
    obtain ⟨ca, hf⟩ := m_chkE hf
    replace ca := z_in hM (by decide) ca
    refine z_get (k := 1) (j := 1) (C := RX1) (T := TX1) (N := 8) (fl := zf_1) (v := va_rf ((zP S 1 x0).map (zh y))) X hw_X1_at_1 hM rfl zc_1 ca (by decide) fl_X1_at_1_1 rfl dX1_at_32 ?_
    clear ca
    obtain ⟨b2, hb9, hf⟩ := m_calE hf
    refine z_topr hb9 ?_
    clear hb9
    exact w_X1_at_35 (t0 := (some b2)) X hret hf hM (lv_sub hl [] rfl)
  | some b1 =>
    replace hf := m_optS hf
    refine lv_astore_n (lv' := [(2, .ref (zh y b1)), (0, .ref (zh y x0))]) hx hb dX1_at_22 rfl hl (by decide) rfl (fun ls hl => ?_)
    refine lv_aload_n hx hb dX1_at_23 rfl (lv_at hl 0 rfl) ?_
    refine lv_ifnull (x := (zh y b1)) hx hb dX1_at_24 ?_
    refine lv_aload_n hx hb dX1_at_27 rfl (lv_at hl 0 rfl) ?_
    refine lv_goto (tgt := 35) hx hb dX1_at_28 (by decide) ?_
    exact w_X1_at_35 (t0 := (some b1)) X hret hf hM (lv_sub hl [] rfl)
noncomputable def f_X1_at_21 (x0 : Nat) (S : ZS) : Option (Nat × ZS) :=
  f_X1_at_22 x0 none S

set_option maxRecDepth 100000 in
set_option maxHeartbeats 4000000 in
theorem w_X1_at_21 {p : Program} {l : Launch} {e : Env} {s : State} {m : MethodId} {args : Array Value} {below : List Frame} {meth : Method} {c : Code} {Q : State → Prop} {D : va_G} {y : Nat → ClassId} {A0 : Nat → Prop} {o : Nat × ZS} (X : CallFix p m c cX1_at 3 s args wsX1_at RX1) (hret : zRr p l e ({ frames := 0, cells := 0, slots := 0, locals := 0 } : Room) s m args below meth c Q cX1_at D y A0 (zh y o.1, o.2)) {x0 : Nat} {S : ZS} {H : Heap} {locs : List Loc} {ls : Array Slot} (hf : f_X1_at_21 x0 S = some o) (hM : zH D y A0 s H locs S) (hl : lv_has ls 3 [(0, .ref (zh y x0))]) : W p l e ({ frames := 0, cells := 0, slots := 0, locals := 0 } : Room) s m args below meth c H locs 0 0 Q (F0 m 21 ls []) := by
  obtain ⟨hx, hb, hml, hown, hts⟩ := id X
  unfold f_X1_at_21 at hf
  refine lv_null hx hb dX1_at_21 ?_
  exact w_X1_at_22 (x0 := x0) (t0 := none) X hret hf hM (lv_sub hl [0] rfl)
noncomputable def f_X1_at_0 (x0 : Nat) (x1 : Int32) (S : ZS) : Option (Nat × ZS) :=
  m_if (x1 ≤ 0) (
  f_X1_at_21 x0 S
  ) (
  m_chk (zK S x0 = 1) (
  m_if ((zI S 3 x0) < x1) (
  f_X1_at_21 x0 S
  ) (
  m_chk (zK S x0 = 1) (
  m_cal (zP S 2 x0) (fun b1 =>
  m_chk (zK S b1 = 16) (
  m_chk (¬ (x1 < 0 ∨ zN S b1 ≤ (x1).toNatClampNeg)) (
  m_bnd (zB S b1 (x1).toNatClampNeg) (fun v2 =>
  f_X1_at_22 x0 v2 S)))))
  ))
  )

set_option maxRecDepth 100000 in
set_option maxHeartbeats 4000000 in
theorem w_X1_at_0 {p : Program} {l : Launch} {e : Env} {s : State} {m : MethodId} {args : Array Value} {below : List Frame} {meth : Method} {c : Code} {Q : State → Prop} {D : va_G} {y : Nat → ClassId} {A0 : Nat → Prop} {o : Nat × ZS} (X : CallFix p m c cX1_at 3 s args wsX1_at RX1) (hret : zRr p l e ({ frames := 0, cells := 0, slots := 0, locals := 0 } : Room) s m args below meth c Q cX1_at D y A0 (zh y o.1, o.2)) {x0 : Nat} {x1 : Int32} {S : ZS} {H : Heap} {locs : List Loc} {ls : Array Slot} (hf : f_X1_at_0 x0 x1 S = some o) (hM : zH D y A0 s H locs S) (hl : lv_has ls 3 [(0, .ref (zh y x0)), (1, .int x1)]) : W p l e ({ frames := 0, cells := 0, slots := 0, locals := 0 } : Room) s m args below meth c H locs 0 0 Q (F0 m 0 ls []) := by
  obtain ⟨hx, hb, hml, hown, hts⟩ := id X
  unfold f_X1_at_0 at hf
  refine lv_iload_n hx hb dX1_at_0 rfl (lv_at hl 1 rfl) ?_
  refine lv_if_le (tgt := 21) hx hb dX1_at_1 (by decide) (fun cc1 => ?_) (fun cc1 => ?_)
  · replace hf := m_ifT hf cc1
    exact w_X1_at_21 (x0 := x0) X hret hf hM (lv_sub hl [0] rfl)
  · replace hf := m_ifF hf cc1
    refine lv_iload_n hx hb dX1_at_4 rfl (lv_at hl 1 rfl) ?_
    refine lv_aload_n hx hb dX1_at_5 rfl (lv_at hl 0 rfl) ?_
    obtain ⟨ca, hf⟩ := m_chkE hf
    replace ca := z_in hM (by decide) ca
    refine z_get (k := 1) (j := 3) (C := RX1) (T := TX1) (N := 8) (fl := zf_1) (v := .int (zI S 3 x0)) X hw_X1_at_1 hM rfl zc_1 ca (by decide) fl_X1_at_1_3 rfl dX1_at_6 ?_
    clear ca
    refine lv_icmp_gt (tgt := 21) hx hb dX1_at_9 (by decide) (fun cc1 => ?_) (fun cc1 => ?_)
    · replace hf := m_ifT hf cc1
      exact w_X1_at_21 (x0 := x0) X hret hf hM (lv_sub hl [0] rfl)
    · replace hf := m_ifF hf cc1
      refine lv_aload_n hx hb dX1_at_12 rfl (lv_at hl 0 rfl) ?_
      obtain ⟨ca, hf⟩ := m_chkE hf
      replace ca := z_in hM (by decide) ca
      refine z_get (k := 1) (j := 2) (C := RX1) (T := TX1) (N := 8) (fl := zf_1) (v := va_rf ((zP S 2 x0).map (zh y))) X hw_X1_at_1 hM rfl zc_1 ca (by decide) fl_X1_at_1_2 rfl dX1_at_13 ?_
      clear ca
      obtain ⟨b1, hb9, hf⟩ := m_calE hf
      refine z_topr hb9 ?_
      clear hb9
      refine lv_iload_n hx hb dX1_at_16 rfl (lv_at hl 1 rfl) ?_
      obtain ⟨ca, hf⟩ := m_chkE hf
      replace ca := z_in hM (by decide) ca
      obtain ⟨cd, hf⟩ := m_chkE hf
      refine z_aald (k := 16) (t0 := 3) (C := "MoveTexts$Node") X hM (fun _ _ _ _ _ => rfl) rfl ca cd dX1_at_17 ?_
      clear ca cd
      obtain ⟨v2, ev, hf⟩ := m_bndE hf
      refine z_topq ev ?_
      clear ev
      refine lv_goto (tgt := 22) hx hb dX1_at_18 (by decide) ?_
      exact w_X1_at_22 (x0 := x0) (t0 := v2) X hret hf hM (lv_sub hl [0] rfl)
noncomputable def f_X1_at (x0 : Nat) (x1 : Int32) (S : ZS) : Option (Nat × ZS) := f_X1_at_0 x0 x1 S
theorem c_X1_at {l : Launch} {D : va_G} {y : Nat → ClassId} {x0 : Nat} {x1 : Int32} {S : ZS} {o : Nat × ZS} (hf : f_X1_at x0 x1 S = some o) : zMr l yX1_at wsX1_at ({ frames := 0, cells := 0, slots := 0, locals := 0 } : Room) [.ref (zh y x0), .int x1] D y S (zh y o.1, o.2) :=
  z_entryR (rt := .object "MoveTexts$Node") (own := RX1) (cc := cX1_at) (maxL := 3) (by decide) rfl rfl (Nat.le_of_ble_eq_true rfl) ⟨_, rfl⟩ (fun p e s m args below meth c A0 Q H locs ls X hret hM hl => w_X1_at_0 X hret hf hM (lv_sub hl [0, 1] rfl))
theorem hd_X1_childWith : yX1_childWith.cls = RX1 ∧ yX1_childWith.cls ≠ "java/lang/invoke/MethodHandle" ∧ yX1_childWith.cls ≠ "java/lang/invoke/VarHandle" ∧ (parseMethodDescriptor yX1_childWith.desc).map (fun d => d.parameters.length) = some 2 := by decide +kernel
theorem fl_X1_childWith_4_1 : Cond.fieldLink RX1 63 "MoveTexts$Node" "move" "I" ∈ wsX1_childWith := by decide +kernel
theorem fl_X1_childWith_4_2 : Cond.fieldLink RX1 60 "MoveTexts$Node" "first" "I" ∈ wsX1_childWith := by decide +kernel
theorem fl_X1_childWith_4_3 : Cond.fieldLink RX1 66 "MoveTexts$Node" "next" "I" ∈ wsX1_childWith := by decide +kernel
theorem hw_X1_childWith_4 : ∀ w ∈ wsX40, w ∈ wsX1_childWith := by decide +kernel
noncomputable def f_X1_childWith_52 (x3 : Int32) (S : ZS) : Option (Int32 × ZS) :=
  some (x3, S)

set_option maxRecDepth 100000 in
set_option maxHeartbeats 4000000 in
theorem w_X1_childWith_52 {p : Program} {l : Launch} {e : Env} {s : State} {m : MethodId} {args : Array Value} {below : List Frame} {meth : Method} {c : Code} {Q : State → Prop} {D : va_G} {y : Nat → ClassId} {A0 : Nat → Prop} {o : Int32 × ZS} (X : CallFix p m c cX1_childWith 5 s args wsX1_childWith RX1) (hret : zRi p l e ({ frames := 1, cells := 0, slots := 0, locals := 22 } : Room) s m args below meth c Q cX1_childWith D y A0 .int o) {x3 : Int32} {S : ZS} {H : Heap} {locs : List Loc} {ls : Array Slot} (hf : f_X1_childWith_52 x3 S = some o) (hM : zH D y A0 s H locs S) (hl : lv_has ls 5 [(3, .int x3)]) : W p l e ({ frames := 1, cells := 0, slots := 0, locals := 22 } : Room) s m args below meth c H locs 0 0 Q (F0 m 52 ls []) := by
  obtain ⟨hx, hb, hml, hown, hts⟩ := id X
  unfold f_X1_childWith_52 at hf
  refine lv_iload_n hx hb dX1_childWith_52 rfl (lv_at hl 0 rfl) ?_
  cases hf
  exact hret H locs _ ls hM rfl dX1_childWith_53
noncomputable def f_X1_childWith_12s (self12 : Nat → Int32 → Int32 → Int32 → ZS → Option (Int32 × ZS)) (x0 : Nat) (x2 : Int32) (x3 : Int32) (x4 : Int32) (S : ZS) : Option (Int32 × ZS) :=
  m_if ((300 : Int32) ≤ x4) (
  f_X1_childWith_52 x3 S
  ) (
  m_if (x3 = (-1 : Int32)) (
  f_X1_childWith_52 x3 S
  ) (
  m_chk (zK S x0 = 1) (
  m_cal (f_X1_at x0 x3 S) (fun o1 =>
  m_chk (zK o1.2 o1.1 = 4) (
  m_if ((zI o1.2 1 o1.1) = x2) (
  f_X1_childWith_52 x3 o1.2
  ) (
  m_chk (zK o1.2 x0 = 1) (
  m_cal (f_X1_at x0 x3 o1.2) (fun o2 =>
  m_chk (zK o2.2 o2.1 = 4) (
  m_bnd (x4 + (1 : Int32)) (fun v3 =>
  self12 x0 x2 (zI o2.2 3 o2.1) v3 o2.2))))
  ))))
  )
  )

set_option maxRecDepth 100000 in
set_option maxHeartbeats 4000000 in
theorem ws_X1_childWith_12 {p : Program} {l : Launch} {e : Env} {s : State} {m : MethodId} {args : Array Value} {below : List Frame} {meth : Method} {c : Code} {Q : State → Prop} {D : va_G} {y : Nat → ClassId} {A0 : Nat → Prop} {o : Int32 × ZS} (X : CallFix p m c cX1_childWith 5 s args wsX1_childWith RX1) (hret : zRi p l e ({ frames := 1, cells := 0, slots := 0, locals := 22 } : Room) s m args below meth c Q cX1_childWith D y A0 .int o) {self12 : Nat → Int32 → Int32 → Int32 → ZS → Option (Int32 × ZS)} (hself12 : ∀ (x0 : Nat) (x2 : Int32) (x3 : Int32) (x4 : Int32) (S : ZS) (H : Heap) (locs : List Loc) (ls : Array Slot), self12 x0 x2 x3 x4 S = some o → zH D y A0 s H locs S → lv_has ls 5 [(0, .ref (zh y x0)), (2, .int x2), (3, .int x3), (4, .int x4)] → W p l e ({ frames := 1, cells := 0, slots := 0, locals := 22 } : Room) s m args below meth c H locs 0 0 Q (F0 m 12 ls [])) {x0 : Nat} {x2 : Int32} {x3 : Int32} {x4 : Int32} {S : ZS} {H : Heap} {locs : List Loc} {ls : Array Slot} (hf : f_X1_childWith_12s self12 x0 x2 x3 x4 S = some o) (hM : zH D y A0 s H locs S) (hl : lv_has ls 5 [(0, .ref (zh y x0)), (2, .int x2), (3, .int x3), (4, .int x4)]) : W p l e ({ frames := 1, cells := 0, slots := 0, locals := 22 } : Room) s m args below meth c H locs 0 0 Q (F0 m 12 ls []) := by
  obtain ⟨hx, hb, hml, hown, hts⟩ := id X
  unfold f_X1_childWith_12s at hf
  refine lv_iload hx hb dX1_childWith_12 (lv_at hl 3 rfl) ?_
  refine lv_sipush (v := (300 : Int32)) hx hb dX1_childWith_14 (by decide) ?_
  refine lv_icmp_ge (tgt := 52) hx hb dX1_childWith_17 (by decide) (fun cc1 => ?_) (fun cc1 => ?_)
  · replace hf := m_ifT hf cc1
    exact w_X1_childWith_52 (x3 := x3) X hret hf hM (lv_sub hl [2] rfl)
  · replace hf := m_ifF hf cc1
    refine lv_iload_n hx hb dX1_childWith_20 rfl (lv_at hl 2 rfl) ?_
    refine lv_iconst (v := (-1 : Int32)) hx hb dX1_childWith_21 (by decide) ?_
    refine lv_icmp_eq (tgt := 52) hx hb dX1_childWith_22 (by decide) (fun cc1 => ?_) (fun cc1 => ?_)
    · replace hf := m_ifT hf cc1
      exact w_X1_childWith_52 (x3 := x3) X hret hf hM (lv_sub hl [2] rfl)
    · replace hf := m_ifF hf cc1
      refine lv_aload_n hx hb dX1_childWith_25 rfl (lv_at hl 0 rfl) ?_
      refine lv_iload_n hx hb dX1_childWith_26 rfl (lv_at hl 2 rfl) ?_
      obtain ⟨ca, hf⟩ := m_chkE hf
      replace ca := z_in hM (by decide) ca
      obtain ⟨o1, ho, hf⟩ := m_calE hf
      refine z_callVr (k := 1) (C := RX1) (T := TX1) (N := 8) (fl := zf_1) X hM rfl zc_1 ca (c_X1_at ho) gX1_childWith_X1_at rfl ⟨rfl, rfl⟩ hd_X1_at ⟨Nat.le_of_ble_eq_true rfl, Nat.le_of_ble_eq_true rfl⟩ rfl hl.1 rfl (Nat.le_of_ble_eq_true rfl) dX1_childWith_27 (fun H locs hM => ?_)
      clear ho
      obtain ⟨ca, hf⟩ := m_chkE hf
      replace ca := z_in hM (by decide) ca
      refine z_get (k := 4) (j := 1) (C := RX4) (T := TX4) (N := 7) (fl := zf_4) (v := .int (zI o1.2 1 o1.1)) X hw_X1_childWith_4 hM rfl zc_4 ca (by decide) fl_X1_childWith_4_1 rfl dX1_childWith_30 ?_
      clear ca
      refine lv_iload_n hx hb dX1_childWith_33 rfl (lv_at hl 1 rfl) ?_
      refine lv_icmp_eq (tgt := 52) hx hb dX1_childWith_34 (by decide) (fun cc1 => ?_) (fun cc1 => ?_)
      · replace hf := m_ifT hf cc1
        exact w_X1_childWith_52 (x3 := x3) X hret hf hM (lv_sub hl [2] rfl)
      · replace hf := m_ifF hf cc1
        refine lv_aload_n hx hb dX1_childWith_37 rfl (lv_at hl 0 rfl) ?_
        refine lv_iload_n hx hb dX1_childWith_38 rfl (lv_at hl 2 rfl) ?_
        obtain ⟨ca, hf⟩ := m_chkE hf
        replace ca := z_in hM (by decide) ca
        obtain ⟨o2, ho, hf⟩ := m_calE hf
        refine z_callVr (k := 1) (C := RX1) (T := TX1) (N := 8) (fl := zf_1) X hM rfl zc_1 ca (c_X1_at ho) gX1_childWith_X1_at rfl ⟨rfl, rfl⟩ hd_X1_at ⟨Nat.le_of_ble_eq_true rfl, Nat.le_of_ble_eq_true rfl⟩ rfl hl.1 rfl (Nat.le_of_ble_eq_true rfl) dX1_childWith_39 (fun H locs hM => ?_)
        clear ho
        obtain ⟨ca, hf⟩ := m_chkE hf
        replace ca := z_in hM (by decide) ca
        refine z_get (k := 4) (j := 3) (C := RX4) (T := TX4) (N := 7) (fl := zf_4) (v := .int (zI o2.2 3 o2.1)) X hw_X1_childWith_4 hM rfl zc_4 ca (by decide) fl_X1_childWith_4_3 rfl dX1_childWith_42 ?_
        clear ca
        refine lv_istore_n (lv' := [(3, .int (zI o2.2 3 o2.1)), (0, .ref (zh y x0)), (2, .int x2), (4, .int x4)]) hx hb dX1_childWith_45 rfl hl (by decide) rfl (fun ls hl => ?_)
        obtain ⟨v3, ev, hf⟩ := m_bndE hf
        refine lv_iinc (v := v3) (lv' := [(4, .int v3), (3, .int (zI o2.2 3 o2.1)), (0, .ref (zh y x0)), (2, .int x2)]) hx hb dX1_childWith_46 hl (k := 3) rfl (by rw [ev]; rfl) (by decide) rfl (fun ls hl => ?_)
        clear ev
        refine lv_goto (tgt := 12) hx hb dX1_childWith_49 (by decide) ?_
        exact hself12 x0 x2 (zI o2.2 3 o2.1) v3 _ _ _ _ hf hM (lv_sub hl [2, 3, 1, 0] rfl)
noncomputable def f_X1_childWith_12 : Nat → Nat → Int32 → Int32 → Int32 → ZS → Option (Int32 × ZS)
  | 0 => fun _ _ _ _ _ => none
  | n + 1 => f_X1_childWith_12s (f_X1_childWith_12 n)
theorem w_X1_childWith_12 {p : Program} {l : Launch} {e : Env} {s : State} {m : MethodId} {args : Array Value} {below : List Frame} {meth : Method} {c : Code} {Q : State → Prop} {D : va_G} {y : Nat → ClassId} {A0 : Nat → Prop} {o : Int32 × ZS} (X : CallFix p m c cX1_childWith 5 s args wsX1_childWith RX1) (hret : zRi p l e ({ frames := 1, cells := 0, slots := 0, locals := 22 } : Room) s m args below meth c Q cX1_childWith D y A0 .int o) (n : Nat) : ∀ (x0 : Nat) (x2 : Int32) (x3 : Int32) (x4 : Int32) (S : ZS) (H : Heap) (locs : List Loc) (ls : Array Slot), f_X1_childWith_12 n x0 x2 x3 x4 S = some o → zH D y A0 s H locs S → lv_has ls 5 [(0, .ref (zh y x0)), (2, .int x2), (3, .int x3), (4, .int x4)] → W p l e ({ frames := 1, cells := 0, slots := 0, locals := 22 } : Room) s m args below meth c H locs 0 0 Q (F0 m 12 ls []) := by
  induction n with
  | zero => intro x0 x2 x3 x4 S H locs ls hf; cases hf
  | succ n ih => intro x0 x2 x3 x4 S H locs ls hf hM hl; exact ws_X1_childWith_12 X hret (self12 := f_X1_childWith_12 n) ih hf hM hl
noncomputable def f_X1_childWith_0 (x0 : Nat) (x1 : Int32) (x2 : Int32) (S : ZS) : Option (Int32 × ZS) :=
  m_chk (zK S x0 = 1) (
  m_cal (f_X1_at x0 x1 S) (fun o1 =>
  m_chk (zK o1.2 o1.1 = 4) (
  f_X1_childWith_12 mFuel x0 x2 (zI o1.2 2 o1.1) (0 : Int32) o1.2)))

set_option maxRecDepth 100000 in
set_option maxHeartbeats 4000000 in
theorem w_X1_childWith_0 {p : Program} {l : Launch} {e : Env} {s : State} {m : MethodId} {args : Array Value} {below : List Frame} {meth : Method} {c : Code} {Q : State → Prop} {D : va_G} {y : Nat → ClassId} {A0 : Nat → Prop} {o : Int32 × ZS} (X : CallFix p m c cX1_childWith 5 s args wsX1_childWith RX1) (hret : zRi p l e ({ frames := 1, cells := 0, slots := 0, locals := 22 } : Room) s m args below meth c Q cX1_childWith D y A0 .int o) {x0 : Nat} {x1 : Int32} {x2 : Int32} {S : ZS} {H : Heap} {locs : List Loc} {ls : Array Slot} (hf : f_X1_childWith_0 x0 x1 x2 S = some o) (hM : zH D y A0 s H locs S) (hl : lv_has ls 5 [(0, .ref (zh y x0)), (1, .int x1), (2, .int x2)]) : W p l e ({ frames := 1, cells := 0, slots := 0, locals := 22 } : Room) s m args below meth c H locs 0 0 Q (F0 m 0 ls []) := by
  obtain ⟨hx, hb, hml, hown, hts⟩ := id X
  unfold f_X1_childWith_0 at hf
  refine lv_aload_n hx hb dX1_childWith_0 rfl (lv_at hl 0 rfl) ?_
  refine lv_iload_n hx hb dX1_childWith_1 rfl (lv_at hl 1 rfl) ?_
  obtain ⟨ca, hf⟩ := m_chkE hf
  replace ca := z_in hM (by decide) ca
  obtain ⟨o1, ho, hf⟩ := m_calE hf
  refine z_callVr (k := 1) (C := RX1) (T := TX1) (N := 8) (fl := zf_1) X hM rfl zc_1 ca (c_X1_at ho) gX1_childWith_X1_at rfl ⟨rfl, rfl⟩ hd_X1_at ⟨Nat.le_of_ble_eq_true rfl, Nat.le_of_ble_eq_true rfl⟩ rfl hl.1 rfl (Nat.le_of_ble_eq_true rfl) dX1_childWith_2 (fun H locs hM => ?_)
  clear ho
  obtain ⟨ca, hf⟩ := m_chkE hf
  replace ca := z_in hM (by decide) ca
  refine z_get (k := 4) (j := 2) (C := RX4) (T := TX4) (N := 7) (fl := zf_4) (v := .int (zI o1.2 2 o1.1)) X hw_X1_childWith_4 hM rfl zc_4 ca (by decide) fl_X1_childWith_4_2 rfl dX1_childWith_5 ?_
  clear ca
  refine lv_istore_n (lv' := [(3, .int (zI o1.2 2 o1.1)), (0, .ref (zh y x0)), (1, .int x1), (2, .int x2)]) hx hb dX1_childWith_8 rfl hl (by decide) rfl (fun ls hl => ?_)
  refine lv_iconst (v := (0 : Int32)) hx hb dX1_childWith_9 (by decide) ?_
  refine lv_istore (lv' := [(4, .int (0 : Int32)), (3, .int (zI o1.2 2 o1.1)), (0, .ref (zh y x0)), (1, .int x1), (2, .int x2)]) hx hb dX1_childWith_10 hl (by decide) rfl (fun ls hl => ?_)
  exact w_X1_childWith_12 X hret _ x0 x2 (zI o1.2 2 o1.1) (0 : Int32) _ _ _ _ hf hM (lv_sub hl [2, 4, 1, 0] rfl)
noncomputable def f_X1_childWith (x0 : Nat) (x1 : Int32) (x2 : Int32) (S : ZS) : Option (Int32 × ZS) := f_X1_childWith_0 x0 x1 x2 S
theorem c_X1_childWith {l : Launch} {D : va_G} {y : Nat → ClassId} {x0 : Nat} {x1 : Int32} {x2 : Int32} {S : ZS} {o : Int32 × ZS} (hf : f_X1_childWith x0 x1 x2 S = some o) : zMi l yX1_childWith wsX1_childWith ({ frames := 1, cells := 0, slots := 0, locals := 22 } : Room) [.ref (zh y x0), .int x1, .int x2] D y S o :=
  z_entryI (own := RX1) (cc := cX1_childWith) (maxL := 5) (by decide) rfl rfl (Nat.le_of_ble_eq_true rfl) (fun p e s m args below meth c A0 Q H locs ls X hret hM hl => w_X1_childWith_0 X hret hf hM (lv_sub hl [0, 1, 2] rfl))
theorem hd_X1_grow : yX1_grow.cls = RX1 ∧ yX1_grow.cls ≠ "java/lang/invoke/MethodHandle" ∧ yX1_grow.cls ≠ "java/lang/invoke/VarHandle" ∧ (parseMethodDescriptor yX1_grow.desc).map (fun d => d.parameters.length) = some 2 := by decide +kernel
theorem fl_X1_grow_1_2 : Cond.fieldLink RX1 25 "MoveTexts$Game" "others" "[LMoveTexts$Node;" ∈ wsX1_grow := by decide +kernel
theorem fl_X1_grow_1_3 : Cond.fieldLink RX1 29 "MoveTexts$Game" "greatest" "I" ∈ wsX1_grow := by decide +kernel
theorem fl_X1_grow_4_2 : Cond.fieldLink RX1 60 "MoveTexts$Node" "first" "I" ∈ wsX1_grow := by decide +kernel
theorem fl_X1_grow_4_3 : Cond.fieldLink RX1 66 "MoveTexts$Node" "next" "I" ∈ wsX1_grow := by decide +kernel
theorem hw_X1_grow_1 : ∀ w ∈ wsX10, w ∈ wsX1_grow := by decide +kernel
theorem hw_X1_grow_4 : ∀ w ∈ wsX40, w ∈ wsX1_grow := by decide +kernel
theorem ii_X1_grow_20 : (RX1, 20, yX4_init, "MoveTexts") ∈ zNW ∧ Cond.initialized yX4_init.cls ∈ wsX1_grow ∧ Cond.instanceMethod yX4_init ∈ wsX1_grow := by decide +kernel
theorem nw_X1_grow_18 : Cond.classLink RX1 18 RX4 ∈ wsX1_grow ∧ Cond.instantiable RX4 7 ∈ wsX1_grow ∧ Cond.initialized RX4 ∈ wsX1_grow := by decide +kernel
noncomputable def g_X1_grow_147 (Pw : Int32 → ZS → Prop) (x0 : Nat) (S : ZS) (C T : Nat) : Prop :=
  m_chkQ (zK S x0 = 1) (
  Pw (zI S 3 x0) S)

set_option maxRecDepth 100000 in
set_option maxHeartbeats 4000000 in
theorem w_X1_grow_147 {p : Program} {l : Launch} {e : Env} {s : State} {m : MethodId} {args : Array Value} {below : List Frame} {meth : Method} {c : Code} {Q : State → Prop} {D : va_G} {y : Nat → ClassId} {A0 : Nat → Prop} {kc kt : Nat} {Pw : Int32 → ZS → Prop} (X : CallFix p m c cX1_grow 5 s args wsX1_grow RX1) (hret : zQi p l e ({ frames := 3, cells := kc, slots := kt, locals := 64 } : Room) s m args below meth c Q cX1_grow D y A0 .int Pw) {x0 : Nat} {S : ZS} {C T : Nat} {H : Heap} {locs : List Loc} {ls : Array Slot} (hf : g_X1_grow_147 Pw x0 S C T) (hCT : C ≤ kc ∧ T ≤ kt) (hM : zH D y A0 s H locs S) (hl : lv_has ls 5 [(0, .ref (zh y x0))]) : W p l e ({ frames := 3, cells := kc, slots := kt, locals := 64 } : Room) s m args below meth c H locs (kc - C) (kt - T) Q (F0 m 147 ls []) := by
  obtain ⟨hx, hb, hml, hown, hts⟩ := id X
  unfold g_X1_grow_147 at hf
  refine lv_aload_n hx hb dX1_grow_147 rfl (lv_at hl 0 rfl) ?_
  obtain ⟨ca, hf⟩ := m_chkPE hf
  replace ca := z_in hM (by decide) ca
  refine z_get (k := 1) (j := 3) (C := RX1) (T := TX1) (N := 8) (fl := zf_1) (v := .int (zI S 3 x0)) X hw_X1_grow_1 hM rfl zc_1 ca (by decide) fl_X1_grow_1_3 rfl dX1_grow_148 ?_
  clear ca
  exact hret _ _ _ _ H locs _ ls hf hM rfl dX1_grow_151
noncomputable def g_X1_grow_102 (Pw : Int32 → ZS → Prop) (x0 : Nat) (x1 : Int32) (x2 : Int32) (x3 : Int32) (S : ZS) (C T : Nat) : Prop :=
  m_chkQ (zK S x0 = 1) (
  m_chkQ (zK S x0 = 1) (
  m_calP (f_X1_at x0 (zI S 3 x0) S) (fun o1 =>
  m_chkQ (zK o1.2 o1.1 = 4) (
  m_calP (f_X4_become o1.1 x1 x2 o1.2) (fun o2 =>
  m_ifQ (x3 = (-1 : Int32)) (
  m_chkQ (zK o2.2 x0 = 1) (
  m_calP (f_X1_at x0 x1 o2.2) (fun o5 =>
  m_chkQ (zK o5.2 x0 = 1) (
  m_chkQ (zK o5.2 o5.1 = 4) (
  m_bndP (zsI o5.2 2 o5.1 (zI o5.2 3 x0)) (fun S6 =>
  g_X1_grow_147 Pw x0 S6 (C) (T))))))
  ) (
  m_chkQ (zK o2.2 x0 = 1) (
  m_calP (f_X1_at x0 x3 o2.2) (fun o3 =>
  m_chkQ (zK o3.2 x0 = 1) (
  m_chkQ (zK o3.2 o3.1 = 4) (
  m_bndP (zsI o3.2 3 o3.1 (zI o3.2 3 x0)) (fun S4 =>
  g_X1_grow_147 Pw x0 S4 (C) (T))))))
  ))))))

set_option maxRecDepth 100000 in
set_option maxHeartbeats 4000000 in
theorem w_X1_grow_102 {p : Program} {l : Launch} {e : Env} {s : State} {m : MethodId} {args : Array Value} {below : List Frame} {meth : Method} {c : Code} {Q : State → Prop} {D : va_G} {y : Nat → ClassId} {A0 : Nat → Prop} {kc kt : Nat} {Pw : Int32 → ZS → Prop} (X : CallFix p m c cX1_grow 5 s args wsX1_grow RX1) (hret : zQi p l e ({ frames := 3, cells := kc, slots := kt, locals := 64 } : Room) s m args below meth c Q cX1_grow D y A0 .int Pw) {x0 : Nat} {x1 : Int32} {x2 : Int32} {x3 : Int32} {S : ZS} {C T : Nat} {H : Heap} {locs : List Loc} {ls : Array Slot} (hf : g_X1_grow_102 Pw x0 x1 x2 x3 S C T) (hCT : C ≤ kc ∧ T ≤ kt) (hM : zH D y A0 s H locs S) (hl : lv_has ls 5 [(0, .ref (zh y x0)), (1, .int x1), (2, .int x2), (3, .int x3)]) : W p l e ({ frames := 3, cells := kc, slots := kt, locals := 64 } : Room) s m args below meth c H locs (kc - C) (kt - T) Q (F0 m 102 ls []) := by
  obtain ⟨hx, hb, hml, hown, hts⟩ := id X
  unfold g_X1_grow_102 at hf
  refine lv_aload_n hx hb dX1_grow_102 rfl (lv_at hl 0 rfl) ?_
  refine lv_aload_n hx hb dX1_grow_103 rfl (lv_at hl 0 rfl) ?_
  obtain ⟨ca, hf⟩ := m_chkPE hf
  replace ca := z_in hM (by decide) ca
  refine z_get (k := 1) (j := 3) (C := RX1) (T := TX1) (N := 8) (fl := zf_1) (v := .int (zI S 3 x0)) X hw_X1_grow_1 hM rfl zc_1 ca (by decide) fl_X1_grow_1_3 rfl dX1_grow_104 ?_
  clear ca
  obtain ⟨ca, hf⟩ := m_chkPE hf
  replace ca := z_in hM (by decide) ca
  obtain ⟨o1, ho, hf⟩ := m_calPE hf
  refine z_gcallVr (k := 1) (C := RX1) (T := TX1) (N := 8) (fl := zf_1) X hM rfl zc_1 ca (c_X1_at ho) gX1_grow_X1_at rfl ⟨rfl, rfl⟩ hd_X1_at ⟨Nat.le_of_ble_eq_true rfl, Nat.le_of_ble_eq_true rfl⟩ rfl hl.1 rfl ⟨Nat.sub_le _ _, Nat.sub_le _ _⟩ (Nat.le_of_ble_eq_true rfl) dX1_grow_107 (fun H locs hM => ?_)
  clear ho
  refine lv_iload_n hx hb dX1_grow_110 rfl (lv_at hl 1 rfl) ?_
  refine lv_iload_n hx hb dX1_grow_111 rfl (lv_at hl 2 rfl) ?_
  obtain ⟨ca, hf⟩ := m_chkPE hf
  replace ca := z_in hM (by decide) ca
  obtain ⟨o2, ho, hf⟩ := m_calPE hf
  refine z_gcallVv (k := 4) (C := RX4) (T := TX4) (N := 7) (fl := zf_4) X hM rfl zc_4 ca (c_X4_become ho) gX1_grow_X4_become rfl ⟨rfl, rfl⟩ hd_X4_become ⟨Nat.le_of_ble_eq_true rfl, Nat.le_of_ble_eq_true rfl⟩ rfl hl.1 rfl ⟨Nat.sub_le _ _, Nat.sub_le _ _⟩ (Nat.le_of_ble_eq_true rfl) dX1_grow_112 (fun H locs hM => ?_)
  clear ho
  refine lv_iload_n hx hb dX1_grow_115 rfl (lv_at hl 3 rfl) ?_
  refine lv_iconst (v := (-1 : Int32)) hx hb dX1_grow_116 (by decide) ?_
  refine lv_icmp_ne (tgt := 135) hx hb dX1_grow_117 (by decide) (fun cc1 => ?_) (fun cc1 => ?_)
  · replace hf := m_ifPF hf cc1
    refine lv_aload_n hx hb dX1_grow_135 rfl (lv_at hl 0 rfl) ?_
    refine lv_iload_n hx hb dX1_grow_136 rfl (lv_at hl 3 rfl) ?_
    obtain ⟨ca, hf⟩ := m_chkPE hf
    replace ca := z_in hM (by decide) ca
    obtain ⟨o3, ho, hf⟩ := m_calPE hf
    refine z_gcallVr (k := 1) (C := RX1) (T := TX1) (N := 8) (fl := zf_1) X hM rfl zc_1 ca (c_X1_at ho) gX1_grow_X1_at rfl ⟨rfl, rfl⟩ hd_X1_at ⟨Nat.le_of_ble_eq_true rfl, Nat.le_of_ble_eq_true rfl⟩ rfl hl.1 rfl ⟨Nat.sub_le _ _, Nat.sub_le _ _⟩ (Nat.le_of_ble_eq_true rfl) dX1_grow_137 (fun H locs hM => ?_)
    clear ho
    refine lv_aload_n hx hb dX1_grow_140 rfl (lv_at hl 0 rfl) ?_
    obtain ⟨ca, hf⟩ := m_chkPE hf
    replace ca := z_in hM (by decide) ca
    refine z_get (k := 1) (j := 3) (C := RX1) (T := TX1) (N := 8) (fl := zf_1) (v := .int (zI o3.2 3 x0)) X hw_X1_grow_1 hM rfl zc_1 ca (by decide) fl_X1_grow_1_3 rfl dX1_grow_141 ?_
    clear ca
    obtain ⟨ca, hf⟩ := m_chkPE hf
    replace ca := z_in hM (by decide) ca
    refine z_putI (k := 4) (j := 3) (C := RX4) (T := TX4) (N := 7) (fl := zf_4) (ty := .int) X hw_X1_grow_4 tyX4_ok nmX4 hM rfl zc_4 ca (by decide) fl_X1_grow_4_3 rfl (tyX4_ok 3 (by decide)) rfl rfl zi_4_3 (Nat.le_of_ble_eq_true rfl) dX1_grow_144 (fun H locs hM => ?_)
    clear ca
    obtain ⟨S4, ev, hf⟩ := m_bndPE hf
    replace hM := z_hS hM ev
    clear ev
    exact w_X1_grow_147 (x0 := x0) X hret hf hCT hM (lv_sub hl [0] rfl)
  · replace hf := m_ifPT hf cc1
    refine lv_aload_n hx hb dX1_grow_120 rfl (lv_at hl 0 rfl) ?_
    refine lv_iload_n hx hb dX1_grow_121 rfl (lv_at hl 1 rfl) ?_
    obtain ⟨ca, hf⟩ := m_chkPE hf
    replace ca := z_in hM (by decide) ca
    obtain ⟨o5, ho, hf⟩ := m_calPE hf
    refine z_gcallVr (k := 1) (C := RX1) (T := TX1) (N := 8) (fl := zf_1) X hM rfl zc_1 ca (c_X1_at ho) gX1_grow_X1_at rfl ⟨rfl, rfl⟩ hd_X1_at ⟨Nat.le_of_ble_eq_true rfl, Nat.le_of_ble_eq_true rfl⟩ rfl hl.1 rfl ⟨Nat.sub_le _ _, Nat.sub_le _ _⟩ (Nat.le_of_ble_eq_true rfl) dX1_grow_122 (fun H locs hM => ?_)
    clear ho
    refine lv_aload_n hx hb dX1_grow_125 rfl (lv_at hl 0 rfl) ?_
    obtain ⟨ca, hf⟩ := m_chkPE hf
    replace ca := z_in hM (by decide) ca
    refine z_get (k := 1) (j := 3) (C := RX1) (T := TX1) (N := 8) (fl := zf_1) (v := .int (zI o5.2 3 x0)) X hw_X1_grow_1 hM rfl zc_1 ca (by decide) fl_X1_grow_1_3 rfl dX1_grow_126 ?_
    clear ca
    obtain ⟨ca, hf⟩ := m_chkPE hf
    replace ca := z_in hM (by decide) ca
    refine z_putI (k := 4) (j := 2) (C := RX4) (T := TX4) (N := 7) (fl := zf_4) (ty := .int) X hw_X1_grow_4 tyX4_ok nmX4 hM rfl zc_4 ca (by decide) fl_X1_grow_4_2 rfl (tyX4_ok 2 (by decide)) rfl rfl zi_4_2 (Nat.le_of_ble_eq_true rfl) dX1_grow_129 (fun H locs hM => ?_)
    clear ca
    obtain ⟨S6, ev, hf⟩ := m_bndPE hf
    replace hM := z_hS hM ev
    clear ev
    refine lv_goto (tgt := 147) hx hb dX1_grow_132 (by decide) ?_
    exact w_X1_grow_147 (x0 := x0) X hret hf hCT hM (lv_sub hl [0] rfl)
noncomputable def g_X1_grow_64 (Pw : Int32 → ZS → Prop) (x0 : Nat) (x1 : Int32) (x2 : Int32) (x3 : Int32) (S : ZS) (C T : Nat) : Prop :=
  m_chkQ (zK S x0 = 1) (
  m_bndP ((zI S 3 x0) + (1 : Int32)) (fun v1 =>
  m_chkQ (zK S x0 = 1) (
  m_bndP (zsI S 3 x0 v1) (fun S2 =>
  m_chkQ (zK S2 x0 = 1) (
  m_calP (zP S2 2 x0) (fun b3 =>
  m_chkQ (zK S2 x0 = 1) (
  m_chkQ (zK S2 b3 = 16) (
  m_chkQ (¬ ((zI S2 3 x0) < 0 ∨ zN S2 b3 ≤ ((zI S2 3 x0)).toNatClampNeg)) (
  m_bndP (zB S2 b3 ((zI S2 3 x0)).toNatClampNeg) (fun v4 =>
  m_optP v4 (
  m_chkQ (zK S2 x0 = 1) (
  m_calP (zP S2 2 x0) (fun b6 =>
  m_chkQ (zK S2 x0 = 1) (
  m_newP (C) (T) 7 (zt S2) (fun q7 C9 T10 =>
  m_bndP (zsNewO S2 q7 4 7) (fun S8 =>
  m_gal (C9) (T10) (fun mc ms Pw => g_X4_init q7 S8 mc ms Pw) (fun r12 S13 C14 T15 =>
  m_chkQ (zK S13 b6 = 16) (
  m_chkQ (zK S13 q7 = 4) (
  m_chkQ (¬ ((zI S2 3 x0) < 0 ∨ zN S13 b6 ≤ ((zI S2 3 x0)).toNatClampNeg)) (
  m_bndP (zsB S13 b6 ((zI S2 3 x0)).toNatClampNeg (some q7)) (fun S16 =>
  g_X1_grow_102 Pw x0 x1 x2 x3 S16 (C14) (T15)))))))))))
  ) (fun b5 =>
  g_X1_grow_102 Pw x0 x1 x2 x3 S2 (C) (T)
  )))))))))))

set_option maxRecDepth 100000 in
set_option maxHeartbeats 4000000 in
theorem w_X1_grow_64 {p : Program} {l : Launch} {e : Env} {s : State} {m : MethodId} {args : Array Value} {below : List Frame} {meth : Method} {c : Code} {Q : State → Prop} {D : va_G} {y : Nat → ClassId} {A0 : Nat → Prop} {kc kt : Nat} {Pw : Int32 → ZS → Prop} (X : CallFix p m c cX1_grow 5 s args wsX1_grow RX1) (hret : zQi p l e ({ frames := 3, cells := kc, slots := kt, locals := 64 } : Room) s m args below meth c Q cX1_grow D y A0 .int Pw) {x0 : Nat} {x1 : Int32} {x2 : Int32} {x3 : Int32} {S : ZS} {C T : Nat} {H : Heap} {locs : List Loc} {ls : Array Slot} (hf : g_X1_grow_64 Pw x0 x1 x2 x3 S C T) (hCT : C ≤ kc ∧ T ≤ kt) (hM : zH D y A0 s H locs S) (hl : lv_has ls 5 [(0, .ref (zh y x0)), (1, .int x1), (2, .int x2), (3, .int x3)]) : W p l e ({ frames := 3, cells := kc, slots := kt, locals := 64 } : Room) s m args below meth c H locs (kc - C) (kt - T) Q (F0 m 64 ls []) := by
  obtain ⟨hx, hb, hml, hown, hts⟩ := id X
  unfold g_X1_grow_64 at hf
  refine lv_aload_n hx hb dX1_grow_64 rfl (lv_at hl 0 rfl) ?_
  refine lv_dup hx hb dX1_grow_65 rfl ?_
  obtain ⟨ca, hf⟩ := m_chkPE hf
  replace ca := z_in hM (by decide) ca
  refine z_get (k := 1) (j := 3) (C := RX1) (T := TX1) (N := 8) (fl := zf_1) (v := .int (zI S 3 x0)) X hw_X1_grow_1 hM rfl zc_1 ca (by decide) fl_X1_grow_1_3 rfl dX1_grow_66 ?_
  clear ca
  refine lv_iconst (v := (1 : Int32)) hx hb dX1_grow_69 (by decide) ?_
  refine lv_iadd hx hb dX1_grow_70 ?_
  obtain ⟨v1, ev, hf⟩ := m_bndPE hf
  refine m_top ev ?_
  clear ev
  obtain ⟨ca, hf⟩ := m_chkPE hf
  replace ca := z_in hM (by decide) ca
  refine z_putI (k := 1) (j := 3) (C := RX1) (T := TX1) (N := 8) (fl := zf_1) (ty := .int) X hw_X1_grow_1 tyX1_ok nmX1 hM rfl zc_1 ca (by decide) fl_X1_grow_1_3 rfl (tyX1_ok 3 (by decide)) rfl rfl zi_1_3 (Nat.le_of_ble_eq_true rfl) dX1_grow_71 (fun H locs hM => ?_)
  clear ca
  obtain ⟨S2, ev, hf⟩ := m_bndPE hf
  replace hM := z_hS hM ev
  clear ev
  refine lv_aload_n hx hb dX1_grow_74 rfl (lv_at hl 0 rfl) ?_
  obtain ⟨ca, hf⟩ := m_chkPE hf
  replace ca := z_in hM (by decide) ca
  refine z_get (k := 1) (j := 2) (C := RX1) (T := TX1) (N := 8) (fl := zf_1) (v := va_rf ((zP S2 2 x0).map (zh y))) X hw_X1_grow_1 hM rfl zc_1 ca (by decide) fl_X1_grow_1_2 rfl dX1_grow_75 ?_
  clear ca
  obtain ⟨b3, hb9, hf⟩ := m_calPE hf
  refine z_topr hb9 ?_
  clear hb9
  refine lv_aload_n hx hb dX1_grow_78 rfl (lv_at hl 0 rfl) ?_
  obtain ⟨ca, hf⟩ := m_chkPE hf
  replace ca := z_in hM (by decide) ca
  refine z_get (k := 1) (j := 3) (C := RX1) (T := TX1) (N := 8) (fl := zf_1) (v := .int (zI S2 3 x0)) X hw_X1_grow_1 hM rfl zc_1 ca (by decide) fl_X1_grow_1_3 rfl dX1_grow_79 ?_
  clear ca
  obtain ⟨ca, hf⟩ := m_chkPE hf
  replace ca := z_in hM (by decide) ca
  obtain ⟨cd, hf⟩ := m_chkPE hf
  refine z_aald (k := 16) (t0 := 3) (C := "MoveTexts$Node") X hM (fun _ _ _ _ _ => rfl) rfl ca cd dX1_grow_82 ?_
  clear ca cd
  obtain ⟨v4, ev, hf⟩ := m_bndPE hf
  refine z_topq ev ?_
  clear ev
  cases v4 with
  | none =>
    replace hf := m_optPN hf
    refine lv_ifnonnullN hx hb dX1_grow_83 ?_
    refine lv_aload_n hx hb dX1_grow_86 rfl (lv_at hl 0 rfl) ?_
    obtain ⟨ca, hf⟩ := m_chkPE hf
    replace ca := z_in hM (by decide) ca
    refine z_get (k := 1) (j := 2) (C := RX1) (T := TX1) (N := 8) (fl := zf_1) (v := va_rf ((zP S2 2 x0).map (zh y))) X hw_X1_grow_1 hM rfl zc_1 ca (by decide) fl_X1_grow_1_2 rfl dX1_grow_87 ?_
    clear ca
    obtain ⟨b6, hb9, hf⟩ := m_calPE hf
    refine z_topr hb9 ?_
    clear hb9
    refine lv_aload_n hx hb dX1_grow_90 rfl (lv_at hl 0 rfl) ?_
    obtain ⟨ca, hf⟩ := m_chkPE hf
    replace ca := z_in hM (by decide) ca
    refine z_get (k := 1) (j := 3) (C := RX1) (T := TX1) (N := 8) (fl := zf_1) (v := .int (zI S2 3 x0)) X hw_X1_grow_1 hM rfl zc_1 ca (by decide) fl_X1_grow_1_3 rfl dX1_grow_91 ?_
    clear ca
    obtain ⟨hcm, ho⟩ := hf
    refine z_newO (k := 4) (C := RX4) (T := TX4) (N := 7) (fl := zf_4) X hw_X1_grow_4 tyX4_ok hM rfl zc_4 nw_X1_grow_18 zd_4 ⟨by show kc - (C) + 1 ≤ kc; omega, by show kt - (T) + 7 ≤ kt; omega⟩ dX1_grow_94 (fun q7 H hq hM => ?_)
    replace hf := ho q7 hq
    refine z_eqCS (c2 := kc - (C - 1)) (t2 := kt - (T - 7)) (by omega) (by omega) ?_
    replace hCT : C - 1 ≤ kc ∧ T - 7 ≤ kt := by omega
    generalize C - 1 = C9 at hf hCT ⊢
    generalize T - 7 = T10 at hf hCT ⊢
    obtain ⟨S8, ev, hf⟩ := m_bndPE hf
    replace hM := z_hS hM ev
    clear ev ho hcm hq
    refine lv_dup hx hb dX1_grow_97 rfl ?_
    obtain ⟨mc, ms, hcm, ho⟩ := m_galE hf
    refine z_wcallINv X hM (c_X4_init ho) gX1_grow_X4_init_n20 ii_X1_grow_20.1 ii_X1_grow_20.2.1 ii_X1_grow_20.2.2 rfl rfl ⟨rfl, rfl⟩ ⟨by show kc - (C9) + mc ≤ kc; omega, by show kt - (T10) + ms ≤ kt; omega⟩ hd_X4_init.2 ⟨Nat.le_of_ble_eq_true rfl, Nat.le_of_ble_eq_true rfl⟩ rfl hl.1 rfl (Nat.le_of_ble_eq_true rfl) dX1_grow_98 (fun S13 H locs hf hM => ?_)
    refine z_eqCS (c2 := kc - (C9 - mc)) (t2 := kt - (T10 - ms)) (by omega) (by omega) ?_
    replace hCT : C9 - mc ≤ kc ∧ T10 - ms ≤ kt := by omega
    generalize C9 - mc = C14 at hf hCT ⊢
    generalize T10 - ms = T15 at hf hCT ⊢
    clear ho hcm
    obtain ⟨ca, hf⟩ := m_chkPE hf
    replace ca := z_in hM (by decide) ca
    obtain ⟨cb, hf⟩ := m_chkPE hf
    replace cb := z_in hM (by decide) cb
    obtain ⟨cd, hf⟩ := m_chkPE hf
    refine z_aast (k := 16) (t0 := 3) (kv := 4) (C := RX4) (T := TX4) (N := 7) (fl := zf_4) X hM (fun _ _ _ _ _ => rfl) rfl rfl zc_4 ca cb cd dX1_grow_101 (fun H locs hM => ?_)
    clear ca cb cd
    obtain ⟨S16, ev, hf⟩ := m_bndPE hf
    replace hM := z_hS hM ev
    clear ev
    exact w_X1_grow_102 (x0 := x0) (x1 := x1) (x2 := x2) (x3 := x3) X hret hf hCT hM (lv_sub hl [0, 1, 2, 3] rfl)
  | some b5 =>
    replace hf := m_optPS hf
    refine lv_ifnonnull (x := (zh y b5)) (tgt := 102) hx hb dX1_grow_83 (by decide) ?_
    exact w_X1_grow_102 (x0 := x0) (x1 := x1) (x2 := x2) (x3 := x3) X hret hf hCT hM (lv_sub hl [0, 1, 2, 3] rfl)
noncomputable def g_X1_grow_24s (Pw : Int32 → ZS → Prop) (self24 : Nat → Int32 → Int32 → Int32 → Int32 → ZS → Nat → Nat → Prop) (x0 : Nat) (x1 : Int32) (x2 : Int32) (x3 : Int32) (x4 : Int32) (S : ZS) (C T : Nat) : Prop :=
  m_ifQ ((300 : Int32) ≤ x4) (
  g_X1_grow_64 Pw x0 x1 x2 x3 S (C) (T)
  ) (
  m_ifQ (x3 = (-1 : Int32)) (
  g_X1_grow_64 Pw x0 x1 x2 x3 S (C) (T)
  ) (
  m_chkQ (zK S x0 = 1) (
  m_calP (f_X1_at x0 x3 S) (fun o1 =>
  m_chkQ (zK o1.2 o1.1 = 4) (
  m_ifQ ((zI o1.2 3 o1.1) = (-1 : Int32)) (
  g_X1_grow_64 Pw x0 x1 x2 x3 o1.2 (C) (T)
  ) (
  m_chkQ (zK o1.2 x0 = 1) (
  m_calP (f_X1_at x0 x3 o1.2) (fun o2 =>
  m_chkQ (zK o2.2 o2.1 = 4) (
  m_bndP (x4 + (1 : Int32)) (fun v3 =>
  self24 x0 x1 x2 (zI o2.2 3 o2.1) v3 o2.2 (C) (T)))))
  ))))
  )
  )

set_option maxRecDepth 100000 in
set_option maxHeartbeats 4000000 in
theorem ws_X1_grow_24 {p : Program} {l : Launch} {e : Env} {s : State} {m : MethodId} {args : Array Value} {below : List Frame} {meth : Method} {c : Code} {Q : State → Prop} {D : va_G} {y : Nat → ClassId} {A0 : Nat → Prop} {kc kt : Nat} {Pw : Int32 → ZS → Prop} (X : CallFix p m c cX1_grow 5 s args wsX1_grow RX1) (hret : zQi p l e ({ frames := 3, cells := kc, slots := kt, locals := 64 } : Room) s m args below meth c Q cX1_grow D y A0 .int Pw) {self24 : Nat → Int32 → Int32 → Int32 → Int32 → ZS → Nat → Nat → Prop} (hself24 : ∀ (x0 : Nat) (x1 : Int32) (x2 : Int32) (x3 : Int32) (x4 : Int32) (S : ZS) (C T : Nat) (H : Heap) (locs : List Loc) (ls : Array Slot), self24 x0 x1 x2 x3 x4 S C T → C ≤ kc ∧ T ≤ kt → zH D y A0 s H locs S → lv_has ls 5 [(0, .ref (zh y x0)), (1, .int x1), (2, .int x2), (3, .int x3), (4, .int x4)] → W p l e ({ frames := 3, cells := kc, slots := kt, locals := 64 } : Room) s m args below meth c H locs (kc - C) (kt - T) Q (F0 m 24 ls [])) {x0 : Nat} {x1 : Int32} {x2 : Int32} {x3 : Int32} {x4 : Int32} {S : ZS} {C T : Nat} {H : Heap} {locs : List Loc} {ls : Array Slot} (hf : g_X1_grow_24s Pw self24 x0 x1 x2 x3 x4 S C T) (hCT : C ≤ kc ∧ T ≤ kt) (hM : zH D y A0 s H locs S) (hl : lv_has ls 5 [(0, .ref (zh y x0)), (1, .int x1), (2, .int x2), (3, .int x3), (4, .int x4)]) : W p l e ({ frames := 3, cells := kc, slots := kt, locals := 64 } : Room) s m args below meth c H locs (kc - C) (kt - T) Q (F0 m 24 ls []) := by
  obtain ⟨hx, hb, hml, hown, hts⟩ := id X
  unfold g_X1_grow_24s at hf
  refine lv_iload hx hb dX1_grow_24 (lv_at hl 4 rfl) ?_
  refine lv_sipush (v := (300 : Int32)) hx hb dX1_grow_26 (by decide) ?_
  refine lv_icmp_ge (tgt := 64) hx hb dX1_grow_29 (by decide) (fun cc1 => ?_) (fun cc1 => ?_)
  · replace hf := m_ifPT hf cc1
    exact w_X1_grow_64 (x0 := x0) (x1 := x1) (x2 := x2) (x3 := x3) X hret hf hCT hM (lv_sub hl [0, 1, 2, 3] rfl)
  · replace hf := m_ifPF hf cc1
    refine lv_iload_n hx hb dX1_grow_32 rfl (lv_at hl 3 rfl) ?_
    refine lv_iconst (v := (-1 : Int32)) hx hb dX1_grow_33 (by decide) ?_
    refine lv_icmp_eq (tgt := 64) hx hb dX1_grow_34 (by decide) (fun cc1 => ?_) (fun cc1 => ?_)
    · replace hf := m_ifPT hf cc1
      exact w_X1_grow_64 (x0 := x0) (x1 := x1) (x2 := x2) (x3 := x3) X hret hf hCT hM (lv_sub hl [0, 1, 2, 3] rfl)
    · replace hf := m_ifPF hf cc1
      refine lv_aload_n hx hb dX1_grow_37 rfl (lv_at hl 0 rfl) ?_
      refine lv_iload_n hx hb dX1_grow_38 rfl (lv_at hl 3 rfl) ?_
      obtain ⟨ca, hf⟩ := m_chkPE hf
      replace ca := z_in hM (by decide) ca
      obtain ⟨o1, ho, hf⟩ := m_calPE hf
      refine z_gcallVr (k := 1) (C := RX1) (T := TX1) (N := 8) (fl := zf_1) X hM rfl zc_1 ca (c_X1_at ho) gX1_grow_X1_at rfl ⟨rfl, rfl⟩ hd_X1_at ⟨Nat.le_of_ble_eq_true rfl, Nat.le_of_ble_eq_true rfl⟩ rfl hl.1 rfl ⟨Nat.sub_le _ _, Nat.sub_le _ _⟩ (Nat.le_of_ble_eq_true rfl) dX1_grow_39 (fun H locs hM => ?_)
      clear ho
      obtain ⟨ca, hf⟩ := m_chkPE hf
      replace ca := z_in hM (by decide) ca
      refine z_get (k := 4) (j := 3) (C := RX4) (T := TX4) (N := 7) (fl := zf_4) (v := .int (zI o1.2 3 o1.1)) X hw_X1_grow_4 hM rfl zc_4 ca (by decide) fl_X1_grow_4_3 rfl dX1_grow_42 ?_
      clear ca
      refine lv_iconst (v := (-1 : Int32)) hx hb dX1_grow_45 (by decide) ?_
      refine lv_icmp_eq (tgt := 64) hx hb dX1_grow_46 (by decide) (fun cc1 => ?_) (fun cc1 => ?_)
      · replace hf := m_ifPT hf cc1
        exact w_X1_grow_64 (x0 := x0) (x1 := x1) (x2 := x2) (x3 := x3) X hret hf hCT hM (lv_sub hl [0, 1, 2, 3] rfl)
      · replace hf := m_ifPF hf cc1
        refine lv_aload_n hx hb dX1_grow_49 rfl (lv_at hl 0 rfl) ?_
        refine lv_iload_n hx hb dX1_grow_50 rfl (lv_at hl 3 rfl) ?_
        obtain ⟨ca, hf⟩ := m_chkPE hf
        replace ca := z_in hM (by decide) ca
        obtain ⟨o2, ho, hf⟩ := m_calPE hf
        refine z_gcallVr (k := 1) (C := RX1) (T := TX1) (N := 8) (fl := zf_1) X hM rfl zc_1 ca (c_X1_at ho) gX1_grow_X1_at rfl ⟨rfl, rfl⟩ hd_X1_at ⟨Nat.le_of_ble_eq_true rfl, Nat.le_of_ble_eq_true rfl⟩ rfl hl.1 rfl ⟨Nat.sub_le _ _, Nat.sub_le _ _⟩ (Nat.le_of_ble_eq_true rfl) dX1_grow_51 (fun H locs hM => ?_)
        clear ho
        obtain ⟨ca, hf⟩ := m_chkPE hf
        replace ca := z_in hM (by decide) ca
        refine z_get (k := 4) (j := 3) (C := RX4) (T := TX4) (N := 7) (fl := zf_4) (v := .int (zI o2.2 3 o2.1)) X hw_X1_grow_4 hM rfl zc_4 ca (by decide) fl_X1_grow_4_3 rfl dX1_grow_54 ?_
        clear ca
        refine lv_istore_n (lv' := [(3, .int (zI o2.2 3 o2.1)), (0, .ref (zh y x0)), (1, .int x1), (2, .int x2), (4, .int x4)]) hx hb dX1_grow_57 rfl hl (by decide) rfl (fun ls hl => ?_)
        obtain ⟨v3, ev, hf⟩ := m_bndPE hf
        refine lv_iinc (v := v3) (lv' := [(4, .int v3), (3, .int (zI o2.2 3 o2.1)), (0, .ref (zh y x0)), (1, .int x1), (2, .int x2)]) hx hb dX1_grow_58 hl (k := 4) rfl (by rw [ev]; rfl) (by decide) rfl (fun ls hl => ?_)
        clear ev
        refine lv_goto (tgt := 24) hx hb dX1_grow_61 (by decide) ?_
        exact hself24 x0 x1 x2 (zI o2.2 3 o2.1) v3 _ _ _ _ _ _ hf hCT hM (lv_sub hl [2, 3, 4, 1, 0] rfl)
noncomputable def g_X1_grow_24 (Pw : Int32 → ZS → Prop) : Nat → Nat → Int32 → Int32 → Int32 → Int32 → ZS → Nat → Nat → Prop
  | 0 => fun _ _ _ _ _ _ _ _ => False
  | n + 1 => g_X1_grow_24s Pw (g_X1_grow_24 Pw n)
theorem w_X1_grow_24 {p : Program} {l : Launch} {e : Env} {s : State} {m : MethodId} {args : Array Value} {below : List Frame} {meth : Method} {c : Code} {Q : State → Prop} {D : va_G} {y : Nat → ClassId} {A0 : Nat → Prop} {kc kt : Nat} {Pw : Int32 → ZS → Prop} (X : CallFix p m c cX1_grow 5 s args wsX1_grow RX1) (hret : zQi p l e ({ frames := 3, cells := kc, slots := kt, locals := 64 } : Room) s m args below meth c Q cX1_grow D y A0 .int Pw) (n : Nat) : ∀ (x0 : Nat) (x1 : Int32) (x2 : Int32) (x3 : Int32) (x4 : Int32) (S : ZS) (C T : Nat) (H : Heap) (locs : List Loc) (ls : Array Slot), g_X1_grow_24 Pw n x0 x1 x2 x3 x4 S C T → C ≤ kc ∧ T ≤ kt → zH D y A0 s H locs S → lv_has ls 5 [(0, .ref (zh y x0)), (1, .int x1), (2, .int x2), (3, .int x3), (4, .int x4)] → W p l e ({ frames := 3, cells := kc, slots := kt, locals := 64 } : Room) s m args below meth c H locs (kc - C) (kt - T) Q (F0 m 24 ls []) := by
  induction n with
  | zero => intro x0 x1 x2 x3 x4 S C T H locs ls hf; exact absurd hf id
  | succ n ih => intro x0 x1 x2 x3 x4 S C T H locs ls hf hCT hM hl; exact ws_X1_grow_24 X hret (self24 := g_X1_grow_24 Pw n) ih hf hCT hM hl
noncomputable def g_X1_grow_0 (Pw : Int32 → ZS → Prop) (x0 : Nat) (x1 : Int32) (x2 : Int32) (S : ZS) (C T : Nat) : Prop :=
  m_chkQ (zK S x0 = 1) (
  m_ifQ ((zI S 3 x0) < (300 : Int32)) (
  m_chkQ (zK S x0 = 1) (
  m_calP (f_X1_at x0 x1 S) (fun o1 =>
  m_chkQ (zK o1.2 o1.1 = 4) (
  g_X1_grow_24 Pw mFuel x0 x1 x2 (zI o1.2 2 o1.1) (0 : Int32) o1.2 (C) (T))))
  ) (
  Pw (-1 : Int32) S
  ))

set_option maxRecDepth 100000 in
set_option maxHeartbeats 4000000 in
theorem w_X1_grow_0 {p : Program} {l : Launch} {e : Env} {s : State} {m : MethodId} {args : Array Value} {below : List Frame} {meth : Method} {c : Code} {Q : State → Prop} {D : va_G} {y : Nat → ClassId} {A0 : Nat → Prop} {kc kt : Nat} {Pw : Int32 → ZS → Prop} (X : CallFix p m c cX1_grow 5 s args wsX1_grow RX1) (hret : zQi p l e ({ frames := 3, cells := kc, slots := kt, locals := 64 } : Room) s m args below meth c Q cX1_grow D y A0 .int Pw) {x0 : Nat} {x1 : Int32} {x2 : Int32} {S : ZS} {C T : Nat} {H : Heap} {locs : List Loc} {ls : Array Slot} (hf : g_X1_grow_0 Pw x0 x1 x2 S C T) (hCT : C ≤ kc ∧ T ≤ kt) (hM : zH D y A0 s H locs S) (hl : lv_has ls 5 [(0, .ref (zh y x0)), (1, .int x1), (2, .int x2)]) : W p l e ({ frames := 3, cells := kc, slots := kt, locals := 64 } : Room) s m args below meth c H locs (kc - C) (kt - T) Q (F0 m 0 ls []) := by
  obtain ⟨hx, hb, hml, hown, hts⟩ := id X
  unfold g_X1_grow_0 at hf
  refine lv_aload_n hx hb dX1_grow_0 rfl (lv_at hl 0 rfl) ?_
  obtain ⟨ca, hf⟩ := m_chkPE hf
  replace ca := z_in hM (by decide) ca
  refine z_get (k := 1) (j := 3) (C := RX1) (T := TX1) (N := 8) (fl := zf_1) (v := .int (zI S 3 x0)) X hw_X1_grow_1 hM rfl zc_1 ca (by decide) fl_X1_grow_1_3 rfl dX1_grow_1 ?_
  clear ca
  refine lv_sipush (v := (300 : Int32)) hx hb dX1_grow_4 (by decide) ?_
  refine lv_icmp_lt (tgt := 12) hx hb dX1_grow_7 (by decide) (fun cc1 => ?_) (fun cc1 => ?_)
  · replace hf := m_ifPT hf cc1
    refine lv_aload_n hx hb dX1_grow_12 rfl (lv_at hl 0 rfl) ?_
    refine lv_iload_n hx hb dX1_grow_13 rfl (lv_at hl 1 rfl) ?_
    obtain ⟨ca, hf⟩ := m_chkPE hf
    replace ca := z_in hM (by decide) ca
    obtain ⟨o1, ho, hf⟩ := m_calPE hf
    refine z_gcallVr (k := 1) (C := RX1) (T := TX1) (N := 8) (fl := zf_1) X hM rfl zc_1 ca (c_X1_at ho) gX1_grow_X1_at rfl ⟨rfl, rfl⟩ hd_X1_at ⟨Nat.le_of_ble_eq_true rfl, Nat.le_of_ble_eq_true rfl⟩ rfl hl.1 rfl ⟨Nat.sub_le _ _, Nat.sub_le _ _⟩ (Nat.le_of_ble_eq_true rfl) dX1_grow_14 (fun H locs hM => ?_)
    clear ho
    obtain ⟨ca, hf⟩ := m_chkPE hf
    replace ca := z_in hM (by decide) ca
    refine z_get (k := 4) (j := 2) (C := RX4) (T := TX4) (N := 7) (fl := zf_4) (v := .int (zI o1.2 2 o1.1)) X hw_X1_grow_4 hM rfl zc_4 ca (by decide) fl_X1_grow_4_2 rfl dX1_grow_17 ?_
    clear ca
    refine lv_istore_n (lv' := [(3, .int (zI o1.2 2 o1.1)), (0, .ref (zh y x0)), (1, .int x1), (2, .int x2)]) hx hb dX1_grow_20 rfl hl (by decide) rfl (fun ls hl => ?_)
    refine lv_iconst (v := (0 : Int32)) hx hb dX1_grow_21 (by decide) ?_
    refine lv_istore (lv' := [(4, .int (0 : Int32)), (3, .int (zI o1.2 2 o1.1)), (0, .ref (zh y x0)), (1, .int x1), (2, .int x2)]) hx hb dX1_grow_22 hl (by decide) rfl (fun ls hl => ?_)
    exact w_X1_grow_24 X hret _ x0 x1 x2 (zI o1.2 2 o1.1) (0 : Int32) _ _ _ _ _ _ hf hCT hM (lv_sub hl [2, 3, 4, 1, 0] rfl)
  · replace hf := m_ifPF hf cc1
    refine lv_iconst (v := (-1 : Int32)) hx hb dX1_grow_10 (by decide) ?_
    exact hret _ _ _ _ H locs _ ls hf hM rfl dX1_grow_11
noncomputable def g_X1_grow (x0 : Nat) (x1 : Int32) (x2 : Int32) (S : ZS) (mc ms : Nat) (Pw : Int32 → ZS → Prop) : Prop := g_X1_grow_0 Pw x0 x1 x2 S mc ms
theorem c_X1_grow {l : Launch} {D : va_G} {y : Nat → ClassId} {x0 : Nat} {x1 : Int32} {x2 : Int32} {S : ZS} {kc kt : Nat} {Pw : Int32 → ZS → Prop} (hf : g_X1_grow x0 x1 x2 S kc kt Pw) : zWi l yX1_grow wsX1_grow ({ frames := 3, cells := kc, slots := kt, locals := 64 } : Room) [.ref (zh y x0), .int x1, .int x2] D y S kc kt Pw :=
  z_wentI (own := RX1) (cc := cX1_grow) (maxL := 5) (by decide) rfl rfl (Nat.le_of_ble_eq_true rfl) ⟨rfl, rfl⟩ (fun p e s m args below meth c A0 Q H locs ls X hret hM hl => w_X1_grow_0 X hret hf ⟨Nat.le_refl _, Nat.le_refl _⟩ hM (lv_sub hl [0, 1, 2] rfl))
end
