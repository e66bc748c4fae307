theorem hd_X0_init : yX0_init.cls = RX0 ∧ yX0_init.cls ≠ "java/lang/invoke/MethodHandle" ∧ yX0_init.cls ≠ "java/lang/invoke/VarHandle" ∧ (parseMethodDescriptor yX0_init.desc).map (fun d => d.parameters.length) = some 0 := by decide +kernel
theorem ar_X0_init_int : Cond.arrayClass .int ∈ wsX0_init := by decide +kernel
theorem fl_X0_init_0_0 : Cond.fieldLink RX0 9 "MoveTexts$Board" "men" "[I" ∈ wsX0_init := by decide +kernel
theorem fl_X0_init_0_1 : Cond.fieldLink RX0 15 "MoveTexts$Board" "whiteKing" "I" ∈ wsX0_init := by decide +kernel
theorem fl_X0_init_0_2 : Cond.fieldLink RX0 19 "MoveTexts$Board" "blackKing" "I" ∈ wsX0_init := by decide +kernel
theorem fl_X0_init_0_3 : Cond.fieldLink RX0 22 "MoveTexts$Board" "side" "I" ∈ wsX0_init := by decide +kernel
theorem fl_X0_init_0_4 : Cond.fieldLink RX0 25 "MoveTexts$Board" "rights" "I" ∈ wsX0_init := by decide +kernel
theorem fl_X0_init_0_5 : Cond.fieldLink RX0 28 "MoveTexts$Board" "passed" "I" ∈ wsX0_init := by decide +kernel
theorem fl_X0_init_0_6 : Cond.fieldLink RX0 31 "MoveTexts$Board" "number" "I" ∈ wsX0_init := by decide +kernel
theorem hw_X0_init_0 : ∀ w ∈ wsX00, w ∈ wsX0_init := by decide +kernel
theorem ob_X0_init : (Cond.methodLink RX0 3 objectInit ∈ wsX0_init ∧ Cond.instanceMethod objectInit ∈ wsX0_init) ∧ Cond.code objectInit ⟨#[0xb1]⟩ 1 none ∈ wsX0_init := by decide +kernel
def g_X0_init_0 (Pw : Int32 → ZS → Prop) (x0 : Nat) (S : ZS) (C T : Nat) : Prop :=
  m_chkQ (¬ (64 : Int32) < 0 ∧ ((64 : Int32)).toNatClampNeg * componentBytes .int ≤ 536870912) (
  m_newP (C) (T) ((64 : Int32)).toNatClampNeg (zt S) (fun q1 C3 T4 =>
  m_bndP (zsNewA S q1 14 ((64 : Int32)).toNatClampNeg) (fun S2 =>
  m_chkQ (zK S2 x0 = 0) (
  m_bndP (zsP S2 0 x0 (some q1)) (fun S5 =>
  m_chkQ (zK S5 x0 = 0) (
  m_bndP (zsI S5 1 x0 (4 : Int32)) (fun S6 =>
  m_chkQ (zK S6 x0 = 0) (
  m_bndP (zsI S6 2 x0 (60 : Int32)) (fun S7 =>
  m_chkQ (zK S7 x0 = 0) (
  m_bndP (zsI S7 3 x0 (0 : Int32)) (fun S8 =>
  m_chkQ (zK S8 x0 = 0) (
  m_bndP (zsI S8 4 x0 (0 : Int32)) (fun S9 =>
  m_chkQ (zK S9 x0 = 0) (
  m_bndP (zsI S9 5 x0 (-1 : Int32)) (fun S10 =>
  m_chkQ (zK S10 x0 = 0) (
  m_bndP (zsI S10 6 x0 (1 : Int32)) (fun S11 =>
  Pw 0 S11)))))))))))))))))

set_option maxRecDepth 100000 in
set_option maxHeartbeats 4000000 in
theorem w_X0_init_0 {p : Program} {l : Launch} {e : Env} {s : State} {m : MethodId} {args : Array Value} {below : List Frame} {meth : Method} {c : Code} {Q : State → Prop} {D : va_G} {y : Nat → ClassId} {A0 : Nat → Prop} {kc kt : Nat} {Pw : Int32 → ZS → Prop} (X : CallFix p m c cX0_init 1 s args wsX0_init RX0) (hin : meth.name = "<init>") (hret : zQv p l e ({ frames := 1, cells := kc, slots := kt, locals := 24 } : Room) s m args below meth c Q cX0_init D y A0 Pw) {x0 : Nat} {S : ZS} {C T : Nat} {H : Heap} {locs : List Loc} {ls : Array Slot} (hf : g_X0_init_0 Pw x0 S C T) (hCT : C ≤ kc ∧ T ≤ kt) (hM : zH D y A0 s H locs S) (hl : lv_has ls 1 [(0, .ref (zh y x0))]) : W p l e ({ frames := 1, cells := kc, slots := kt, locals := 24 } : Room) s m args below meth c H locs (kc - C) (kt - T) Q (F0 m 0 ls []) := by
  obtain ⟨hx, hb, hml, hown, hts⟩ := id X
  unfold g_X0_init_0 at hf
  refine lv_aload_n hx hb dX0_init_0 rfl (lv_at hl 0 rfl) ?_
  refine z_obj X (by rw [hml]; exact hl.1.symm) ob_X0_init.1 ob_X0_init.2 (Nat.le_of_ble_eq_true rfl) (Nat.le_of_ble_eq_true rfl) dX0_init_1 ?_
  refine lv_aload_n hx hb dX0_init_4 rfl (lv_at hl 0 rfl) ?_
  refine lv_bipush (v := (64 : Int32)) hx hb dX0_init_5 (by decide) ?_
  obtain ⟨cd, hf⟩ := m_chkPE hf
  obtain ⟨hcm, ho⟩ := hf
  refine z_newI X hM ar_X0_init_int cd.1 cd.2 ⟨by show kc - (C) + 1 ≤ kc; omega, by show kt - (T) + _ ≤ kt; omega⟩ dX0_init_7 (fun q1 H hq hM => ?_)
  replace hf := ho q1 hq
  refine z_eqCS (c2 := kc - (C - 1)) (t2 := kt - (T - ((64 : Int32)).toNatClampNeg)) (by omega) (by omega) ?_
  replace hCT : C - 1 ≤ kc ∧ T - ((64 : Int32)).toNatClampNeg ≤ kt := by omega
  generalize C - 1 = C3 at hf hCT ⊢
  generalize T - ((64 : Int32)).toNatClampNeg = T4 at hf hCT ⊢
  obtain ⟨S2, ev, hf⟩ := m_bndPE hf
  replace hM := z_hS hM ev
  clear ev ho hcm cd hq
  obtain ⟨ca, hf⟩ := m_chkPE hf
  replace ca := z_in hM (by decide) ca
  refine z_putPF (k := 0) (j := 0) (C := RX0) (T := TX0) (N := 7) (fl := zf_0) (ty := tyX0 0) X hw_X0_init_0 tyX0_ok nmX0 hM rfl zc_0 ca (by decide) fl_X0_init_0_0 rfl hin rfl (tyX0_ok 0 (by decide)) rfl rfl zp_0_0 (Nat.le_of_ble_eq_true rfl) dX0_init_9 (fun H locs hM => ?_)
  clear ca
  obtain ⟨S5, ev, hf⟩ := m_bndPE hf
  replace hM := z_hS hM ev
  clear ev
  refine lv_aload_n hx hb dX0_init_12 rfl (lv_at hl 0 rfl) ?_
  refine lv_iconst (v := (4 : Int32)) hx hb dX0_init_13 (by decide) ?_
  obtain ⟨ca, hf⟩ := m_chkPE hf
  replace ca := z_in hM (by decide) ca
  refine z_putI (k := 0) (j := 1) (C := RX0) (T := TX0) (N := 7) (fl := zf_0) (ty := .int) X hw_X0_init_0 tyX0_ok nmX0 hM rfl zc_0 ca (by decide) fl_X0_init_0_1 rfl (tyX0_ok 1 (by decide)) rfl rfl zi_0_1 (Nat.le_of_ble_eq_true rfl) dX0_init_14 (fun H locs hM => ?_)
  clear ca
  obtain ⟨S6, ev, hf⟩ := m_bndPE hf
  replace hM := z_hS hM ev
  clear ev
  refine lv_aload_n hx hb dX0_init_17 rfl (lv_at hl 0 rfl) ?_
  refine lv_bipush (v := (60 : Int32)) hx hb dX0_init_18 (by decide) ?_
  obtain ⟨ca, hf⟩ := m_chkPE hf
  replace ca := z_in hM (by decide) ca
  refine z_putI (k := 0) (j := 2) (C := RX0) (T := TX0) (N := 7) (fl := zf_0) (ty := .int) X hw_X0_init_0 tyX0_ok nmX0 hM rfl zc_0 ca (by decide) fl_X0_init_0_2 rfl (tyX0_ok 2 (by decide)) rfl rfl zi_0_2 (Nat.le_of_ble_eq_true rfl) dX0_init_20 (fun H locs hM => ?_)
  clear ca
  obtain ⟨S7, ev, hf⟩ := m_bndPE hf
  replace hM := z_hS hM ev
  clear ev
  refine lv_aload_n hx hb dX0_init_23 rfl (lv_at hl 0 rfl) ?_
  refine lv_iconst (v := (0 : Int32)) hx hb dX0_init_24 (by decide) ?_
  obtain ⟨ca, hf⟩ := m_chkPE hf
  replace ca := z_in hM (by decide) ca
  refine z_putI (k := 0) (j := 3) (C := RX0) (T := TX0) (N := 7) (fl := zf_0) (ty := .int) X hw_X0_init_0 tyX0_ok nmX0 hM rfl zc_0 ca (by decide) fl_X0_init_0_3 rfl (tyX0_ok 3 (by decide)) rfl rfl zi_0_3 (Nat.le_of_ble_eq_true rfl) dX0_init_25 (fun H locs hM => ?_)
  clear ca
  obtain ⟨S8, ev, hf⟩ := m_bndPE hf
  replace hM := z_hS hM ev
  clear ev
  refine lv_aload_n hx hb dX0_init_28 rfl (lv_at hl 0 rfl) ?_
  refine lv_iconst (v := (0 : Int32)) hx hb dX0_init_29 (by decide) ?_
  obtain ⟨ca, hf⟩ := m_chkPE hf
  replace ca := z_in hM (by decide) ca
  refine z_putI (k := 0) (j := 4) (C := RX0) (T := TX0) (N := 7) (fl := zf_0) (ty := .int) X hw_X0_init_0 tyX0_ok nmX0 hM rfl zc_0 ca (by decide) fl_X0_init_0_4 rfl (tyX0_ok 4 (by decide)) rfl rfl zi_0_4 (Nat.le_of_ble_eq_true rfl) dX0_init_30 (fun H locs hM => ?_)
  clear ca
  obtain ⟨S9, ev, hf⟩ := m_bndPE hf
  replace hM := z_hS hM ev
  clear ev
  refine lv_aload_n hx hb dX0_init_33 rfl (lv_at hl 0 rfl) ?_
  refine lv_iconst (v := (-1 : Int32)) hx hb dX0_init_34 (by decide) ?_
  obtain ⟨ca, hf⟩ := m_chkPE hf
  replace ca := z_in hM (by decide) ca
  refine z_putI (k := 0) (j := 5) (C := RX0) (T := TX0) (N := 7) (fl := zf_0) (ty := .int) X hw_X0_init_0 tyX0_ok nmX0 hM rfl zc_0 ca (by decide) fl_X0_init_0_5 rfl (tyX0_ok 5 (by decide)) rfl rfl zi_0_5 (Nat.le_of_ble_eq_true rfl) dX0_init_35 (fun H locs hM => ?_)
  clear ca
  obtain ⟨S10, ev, hf⟩ := m_bndPE hf
  replace hM := z_hS hM ev
  clear ev
  refine lv_aload_n hx hb dX0_init_38 rfl (lv_at hl 0 rfl) ?_
  refine lv_iconst (v := (1 : Int32)) hx hb dX0_init_39 (by decide) ?_
  obtain ⟨ca, hf⟩ := m_chkPE hf
  replace ca := z_in hM (by decide) ca
  refine z_putI (k := 0) (j := 6) (C := RX0) (T := TX0) (N := 7) (fl := zf_0) (ty := .int) X hw_X0_init_0 tyX0_ok nmX0 hM rfl zc_0 ca (by decide) fl_X0_init_0_6 rfl (tyX0_ok 6 (by decide)) rfl rfl zi_0_6 (Nat.le_of_ble_eq_true rfl) dX0_init_40 (fun H locs hM => ?_)
  clear ca
  obtain ⟨S11, ev, hf⟩ := m_bndPE hf
  replace hM := z_hS hM ev
  clear ev
  exact hret _ _ _ H locs _ ls hf hM dX0_init_43
def g_X0_init (x0 : Nat) (S : ZS) (mc ms : Nat) (Pw : Int32 → ZS → Prop) : Prop := g_X0_init_0 Pw x0 S mc ms
theorem c_X0_init {l : Launch} {D : va_G} {y : Nat → ClassId} {x0 : Nat} {S : ZS} {kc kt : Nat} {Pw : Int32 → ZS → Prop} (hf : g_X0_init x0 S kc kt Pw) : zWv l yX0_init wsX0_init ({ frames := 1, cells := kc, slots := kt, locals := 24 } : Room) [.ref (zh y x0)] D y S kc kt Pw :=
  z_wentC (own := RX0) (cc := cX0_init) (maxL := 1) (by decide) rfl rfl (Nat.le_of_ble_eq_true rfl) ⟨rfl, rfl⟩ rfl (fun p e s m args below meth c A0 Q H locs ls X hin hret hM hl => w_X0_init_0 X hin hret hf ⟨Nat.le_refl _, Nat.le_refl _⟩ hM (lv_sub hl [0] rfl))
theorem hd_X0_wipe : yX0_wipe.cls = RX0 ∧ yX0_wipe.cls ≠ "java/lang/invoke/MethodHandle" ∧ yX0_wipe.cls ≠ "java/lang/invoke/VarHandle" ∧ (parseMethodDescriptor yX0_wipe.desc).map (fun d => d.parameters.length) = some 0 := by decide +kernel
theorem fl_X0_wipe_0_0 : Cond.fieldLink RX0 9 "MoveTexts$Board" "men" "[I" ∈ wsX0_wipe := by decide +kernel
theorem fl_X0_wipe_0_3 : Cond.fieldLink RX0 22 "MoveTexts$Board" "side" "I" ∈ wsX0_wipe := by decide +kernel
theorem fl_X0_wipe_0_4 : Cond.fieldLink RX0 25 "MoveTexts$Board" "rights" "I" ∈ wsX0_wipe := by decide +kernel
theorem fl_X0_wipe_0_5 : Cond.fieldLink RX0 28 "MoveTexts$Board" "passed" "I" ∈ wsX0_wipe := by decide +kernel
theorem fl_X0_wipe_0_6 : Cond.fieldLink RX0 31 "MoveTexts$Board" "number" "I" ∈ wsX0_wipe := by decide +kernel
theorem hw_X0_wipe_0 : ∀ w ∈ wsX00, w ∈ wsX0_wipe := by decide +kernel
def f_X0_wipe_2s (self2 : Nat → Int32 → ZS → Option (Int32 × ZS)) (x0 : Nat) (x1 : Int32) (S : ZS) : Option (Int32 × ZS) :=
  m_if ((64 : Int32) ≤ x1) (
  m_chk (zK S x0 = 0) (
  m_bnd (zsI S 3 x0 (0 : Int32)) (fun S1 =>
  m_chk (zK S1 x0 = 0) (
  m_bnd (zsI S1 4 x0 (0 : Int32)) (fun S2 =>
  m_chk (zK S2 x0 = 0) (
  m_bnd (zsI S2 5 x0 (-1 : Int32)) (fun S3 =>
  m_chk (zK S3 x0 = 0) (
  m_bnd (zsI S3 6 x0 (1 : Int32)) (fun S4 =>
  some (0, S4)))))))))
  ) (
  m_chk (zK S x0 = 0) (
  m_cal (zP S 0 x0) (fun b5 =>
  m_chk (zK S b5 = 14) (
  m_chk (¬ (x1 < 0 ∨ zN S b5 ≤ (x1).toNatClampNeg)) (
  m_bnd (zsA S b5 (x1).toNatClampNeg (0 : Int32)) (fun S6 =>
  m_bnd (x1 + (1 : Int32)) (fun v7 =>
  self2 x0 v7 S6))))))
  )

set_option maxRecDepth 100000 in
set_option maxHeartbeats 4000000 in
theorem ws_X0_wipe_2 {p : Program} {l : Launch} {e : Env} {s : State} {m : MethodId} {args : Array Value} {below : List Frame} {meth : Method} {c : Code} {Q : State → Prop} {D : va_G} {y : Nat → ClassId} {A0 : Nat → Prop} {o : Int32 × ZS} (X : CallFix p m c cX0_wipe 2 s args wsX0_wipe RX0) (hret : zRv p l e ({ frames := 0, cells := 0, slots := 0, locals := 0 } : Room) s m args below meth c Q cX0_wipe D y A0 o) {self2 : Nat → Int32 → ZS → Option (Int32 × ZS)} (hself2 : ∀ (x0 : Nat) (x1 : Int32) (S : ZS) (H : Heap) (locs : List Loc) (ls : Array Slot), self2 x0 x1 S = some o → zH D y A0 s H locs S → lv_has ls 2 [(0, .ref (zh y x0)), (1, .int x1)] → W p l e ({ frames := 0, cells := 0, slots := 0, locals := 0 } : Room) s m args below meth c H locs 0 0 Q (F0 m 2 ls [])) {x0 : Nat} {x1 : Int32} {S : ZS} {H : Heap} {locs : List Loc} {ls : Array Slot} (hf : f_X0_wipe_2s self2 x0 x1 S = some o) (hM : zH D y A0 s H locs S) (hl : lv_has ls 2 [(0, .ref (zh y x0)), (1, .int x1)]) : W p l e ({ frames := 0, cells := 0, slots := 0, locals := 0 } : Room) s m args below meth c H locs 0 0 Q (F0 m 2 ls []) := by
  obtain ⟨hx, hb, hml, hown, hts⟩ := id X
  unfold f_X0_wipe_2s at hf
  refine lv_iload_n hx hb dX0_wipe_2 rfl (lv_at hl 1 rfl) ?_
  refine lv_bipush (v := (64 : Int32)) hx hb dX0_wipe_3 (by decide) ?_
  refine lv_icmp_ge (tgt := 21) hx hb dX0_wipe_5 (by decide) (fun cc1 => ?_) (fun cc1 => ?_)
  · replace hf := m_ifT hf cc1
    refine lv_aload_n hx hb dX0_wipe_21 rfl (lv_at hl 0 rfl) ?_
    refine lv_iconst (v := (0 : Int32)) hx hb dX0_wipe_22 (by decide) ?_
    obtain ⟨ca, hf⟩ := m_chkE hf
    replace ca := z_in hM (by decide) ca
    refine z_putI (k := 0) (j := 3) (C := RX0) (T := TX0) (N := 7) (fl := zf_0) (ty := .int) X hw_X0_wipe_0 tyX0_ok nmX0 hM rfl zc_0 ca (by decide) fl_X0_wipe_0_3 rfl (tyX0_ok 3 (by decide)) rfl rfl zi_0_3 (Nat.le_of_ble_eq_true rfl) dX0_wipe_23 (fun H locs hM => ?_)
    clear ca
    obtain ⟨S1, ev, hf⟩ := m_bndE hf
    replace hM := z_hS hM ev
    clear ev
    refine lv_aload_n hx hb dX0_wipe_26 rfl (lv_at hl 0 rfl) ?_
    refine lv_iconst (v := (0 : Int32)) hx hb dX0_wipe_27 (by decide) ?_
    obtain ⟨ca, hf⟩ := m_chkE hf
    replace ca := z_in hM (by decide) ca
    refine z_putI (k := 0) (j := 4) (C := RX0) (T := TX0) (N := 7) (fl := zf_0) (ty := .int) X hw_X0_wipe_0 tyX0_ok nmX0 hM rfl zc_0 ca (by decide) fl_X0_wipe_0_4 rfl (tyX0_ok 4 (by decide)) rfl rfl zi_0_4 (Nat.le_of_ble_eq_true rfl) dX0_wipe_28 (fun H locs hM => ?_)
    clear ca
    obtain ⟨S2, ev, hf⟩ := m_bndE hf
    replace hM := z_hS hM ev
    clear ev
    refine lv_aload_n hx hb dX0_wipe_31 rfl (lv_at hl 0 rfl) ?_
    refine lv_iconst (v := (-1 : Int32)) hx hb dX0_wipe_32 (by decide) ?_
    obtain ⟨ca, hf⟩ := m_chkE hf
    replace ca := z_in hM (by decide) ca
    refine z_putI (k := 0) (j := 5) (C := RX0) (T := TX0) (N := 7) (fl := zf_0) (ty := .int) X hw_X0_wipe_0 tyX0_ok nmX0 hM rfl zc_0 ca (by decide) fl_X0_wipe_0_5 rfl (tyX0_ok 5 (by decide)) rfl rfl zi_0_5 (Nat.le_of_ble_eq_true rfl) dX0_wipe_33 (fun H locs hM => ?_)
    clear ca
    obtain ⟨S3, ev, hf⟩ := m_bndE hf
    replace hM := z_hS hM ev
    clear ev
    refine lv_aload_n hx hb dX0_wipe_36 rfl (lv_at hl 0 rfl) ?_
    refine lv_iconst (v := (1 : Int32)) hx hb dX0_wipe_37 (by decide) ?_
    obtain ⟨ca, hf⟩ := m_chkE hf
    replace ca := z_in hM (by decide) ca
    refine z_putI (k := 0) (j := 6) (C := RX0) (T := TX0) (N := 7) (fl := zf_0) (ty := .int) X hw_X0_wipe_0 tyX0_ok nmX0 hM rfl zc_0 ca (by decide) fl_X0_wipe_0_6 rfl (tyX0_ok 6 (by decide)) rfl rfl zi_0_6 (Nat.le_of_ble_eq_true rfl) dX0_wipe_38 (fun H locs hM => ?_)
    clear ca
    obtain ⟨S4, ev, hf⟩ := m_bndE hf
    replace hM := z_hS hM ev
    clear ev
    cases hf
    exact hret H locs _ ls hM dX0_wipe_41
  · replace hf := m_ifF hf cc1
    refine lv_aload_n hx hb dX0_wipe_8 rfl (lv_at hl 0 rfl) ?_
    obtain ⟨ca, hf⟩ := m_chkE hf
    replace ca := z_in hM (by decide) ca
    refine z_get (k := 0) (j := 0) (C := RX0) (T := TX0) (N := 7) (fl := zf_0) (v := va_rf ((zP S 0 x0).map (zh y))) X hw_X0_wipe_0 hM rfl zc_0 ca (by decide) fl_X0_wipe_0_0 rfl dX0_wipe_9 ?_
    clear ca
    obtain ⟨b5, hb9, hf⟩ := m_calE hf
    refine z_topr hb9 ?_
    clear hb9
    refine lv_iload_n hx hb dX0_wipe_12 rfl (lv_at hl 1 rfl) ?_
    refine lv_iconst (v := (0 : Int32)) hx hb dX0_wipe_13 (by decide) ?_
    obtain ⟨ca, hf⟩ := m_chkE hf
    replace ca := z_in hM (by decide) ca
    obtain ⟨cd, hf⟩ := m_chkE hf
    refine z_iast X hM ca cd dX0_wipe_14 (fun H locs hM => ?_)
    clear ca cd
    obtain ⟨S6, ev, hf⟩ := m_bndE hf
    replace hM := z_hS hM ev
    clear ev
    obtain ⟨v7, ev, hf⟩ := m_bndE hf
    refine lv_iinc (v := v7) (lv' := [(1, .int v7), (0, .ref (zh y x0))]) hx hb dX0_wipe_15 hl (k := 1) rfl (by rw [ev]; rfl) (by decide) rfl (fun ls hl => ?_)
    clear ev
    refine lv_goto (tgt := 2) hx hb dX0_wipe_18 (by decide) ?_
    exact hself2 x0 v7 _ _ _ _ hf hM (lv_sub hl [1, 0] rfl)
def f_X0_wipe_2 : Nat → Nat → Int32 → ZS → Option (Int32 × ZS)
  | 0 => fun _ _ _ => none
  | n + 1 => f_X0_wipe_2s (f_X0_wipe_2 n)
theorem w_X0_wipe_2 {p : Program} {l : Launch} {e : Env} {s : State} {m : MethodId} {args : Array Value} {below : List Frame} {meth : Method} {c : Code} {Q : State → Prop} {D : va_G} {y : Nat → ClassId} {A0 : Nat → Prop} {o : Int32 × ZS} (X : CallFix p m c cX0_wipe 2 s args wsX0_wipe RX0) (hret : zRv p l e ({ frames := 0, cells := 0, slots := 0, locals := 0 } : Room) s m args below meth c Q cX0_wipe D y A0 o) (n : Nat) : ∀ (x0 : Nat) (x1 : Int32) (S : ZS) (H : Heap) (locs : List Loc) (ls : Array Slot), f_X0_wipe_2 n x0 x1 S = some o → zH D y A0 s H locs S → lv_has ls 2 [(0, .ref (zh y x0)), (1, .int x1)] → W p l e ({ frames := 0, cells := 0, slots := 0, locals := 0 } : Room) s m args below meth c H locs 0 0 Q (F0 m 2 ls []) := by
  induction n with
  | zero => intro x0 x1 S H locs ls hf; cases hf
  | succ n ih => intro x0 x1 S H locs ls hf hM hl; exact ws_X0_wipe_2 X hret (self2 := f_X0_wipe_2 n) ih hf hM hl
def f_X0_wipe_0 (x0 : Nat) (S : ZS) : Option (Int32 × ZS) :=
  f_X0_wipe_2 mFuel x0 (0 : Int32) S

set_option maxRecDepth 100000 in
set_option maxHeartbeats 4000000 in
theorem w_X0_wipe_0 {p : Program} {l : Launch} {e : Env} {s : State} {m : MethodId} {args : Array Value} {below : List Frame} {meth : Method} {c : Code} {Q : State → Prop} {D : va_G} {y : Nat → ClassId} {A0 : Nat → Prop} {o : Int32 × ZS} (X : CallFix p m c cX0_wipe 2 s args wsX0_wipe RX0) (hret : zRv p l e ({ frames := 0, cells := 0, slots := 0, locals := 0 } : Room) s m args below meth c Q cX0_wipe D y A0 o) {x0 : Nat} {S : ZS} {H : Heap} {locs : List Loc} {ls : Array Slot} (hf : f_X0_wipe_0 x0 S = some o) (hM : zH D y A0 s H locs S) (hl : lv_has ls 2 [(0, .ref (zh y x0))]) : W p l e ({ frames := 0, cells := 0, slots := 0, locals := 0 } : Room) s m args below meth c H locs 0 0 Q (F0 m 0 ls []) := by
  obtain ⟨hx, hb, hml, hown, hts⟩ := id X
  unfold f_X0_wipe_0 at hf
  refine lv_iconst (v := (0 : Int32)) hx hb dX0_wipe_0 (by decide) ?_
  refine lv_istore_n (lv' := [(1, .int (0 : Int32)), (0, .ref (zh y x0))]) hx hb dX0_wipe_1 rfl hl (by decide) rfl (fun ls hl => ?_)
  exact w_X0_wipe_2 X hret _ x0 (0 : Int32) _ _ _ _ hf hM (lv_sub hl [1, 0] rfl)
def f_X0_wipe (x0 : Nat) (S : ZS) : Option (Int32 × ZS) := f_X0_wipe_0 x0 S
theorem c_X0_wipe {l : Launch} {D : va_G} {y : Nat → ClassId} {x0 : Nat} {S : ZS} {o : Int32 × ZS} (hf : f_X0_wipe x0 S = some o) : zMv l yX0_wipe wsX0_wipe ({ frames := 0, cells := 0, slots := 0, locals := 0 } : Room) [.ref (zh y x0)] D y S o :=
  z_entryV (own := RX0) (cc := cX0_wipe) (maxL := 2) (by decide) rfl rfl (Nat.le_of_ble_eq_true rfl) (fun p e s m args below meth c A0 Q H locs ls X hret hM hl => w_X0_wipe_0 X hret hf hM (lv_sub hl [0] rfl))
theorem hd_X0_put : yX0_put.cls = RX0 ∧ yX0_put.cls ≠ "java/lang/invoke/MethodHandle" ∧ yX0_put.cls ≠ "java/lang/invoke/VarHandle" ∧ (parseMethodDescriptor yX0_put.desc).map (fun d => d.parameters.length) = some 2 := by decide +kernel
theorem fl_X0_put_0_0 : Cond.fieldLink RX0 9 "MoveTexts$Board" "men" "[I" ∈ wsX0_put := by decide +kernel
theorem fl_X0_put_0_1 : Cond.fieldLink RX0 15 "MoveTexts$Board" "whiteKing" "I" ∈ wsX0_put := by decide +kernel
theorem fl_X0_put_0_2 : Cond.fieldLink RX0 19 "MoveTexts$Board" "blackKing" "I" ∈ wsX0_put := by decide +kernel
theorem hw_X0_put_0 : ∀ w ∈ wsX00, w ∈ wsX0_put := by decide +kernel
def f_X0_put_32 (S : ZS) : Option (Int32 × ZS) :=
  some (0, S)

set_option maxRecDepth 100000 in
set_option maxHeartbeats 4000000 in
theorem w_X0_put_32 {p : Program} {l : Launch} {e : Env} {s : State} {m : MethodId} {args : Array Value} {below : List Frame} {meth : Method} {c : Code} {Q : State → Prop} {D : va_G} {y : Nat → ClassId} {A0 : Nat → Prop} {o : Int32 × ZS} (X : CallFix p m c cX0_put 3 s args wsX0_put RX0) (hret : zRv p l e ({ frames := 0, cells := 0, slots := 0, locals := 0 } : Room) s m args below meth c Q cX0_put D y A0 o) {S : ZS} {H : Heap} {locs : List Loc} {ls : Array Slot} (hf : f_X0_put_32  S = some o) (hM : zH D y A0 s H locs S) (hl : lv_has ls 3 []) : W p l e ({ frames := 0, cells := 0, slots := 0, locals := 0 } : Room) s m args below meth c H locs 0 0 Q (F0 m 32 ls []) := by
  obtain ⟨hx, hb, hml, hown, hts⟩ := id X
  unfold f_X0_put_32 at hf
  cases hf
  exact hret H locs _ ls hM dX0_put_32
def f_X0_put_0 (x0 : Nat) (x1 : Int32) (x2 : Int32) (S : ZS) : Option (Int32 × ZS) :=
  m_chk (zK S x0 = 0) (
  m_cal (zP S 0 x0) (fun b1 =>
  m_chk (zK S b1 = 14) (
  m_chk (¬ (x1 < 0 ∨ zN S b1 ≤ (x1).toNatClampNeg)) (
  m_bnd (zsA S b1 (x1).toNatClampNeg x2) (fun S2 =>
  m_if (x2 = (6 : Int32)) (
  m_chk (zK S2 x0 = 0) (
  m_bnd (zsI S2 1 x0 x1) (fun S4 =>
  f_X0_put_32  S4))
  ) (
  m_if (x2 = (14 : Int32)) (
  m_chk (zK S2 x0 = 0) (
  m_bnd (zsI S2 2 x0 x1) (fun S3 =>
  f_X0_put_32  S3))
  ) (
  f_X0_put_32  S2
  )
  ))))))

set_option maxRecDepth 100000 in
set_option maxHeartbeats 4000000 in
theorem w_X0_put_0 {p : Program} {l : Launch} {e : Env} {s : State} {m : MethodId} {args : Array Value} {below : List Frame} {meth : Method} {c : Code} {Q : State → Prop} {D : va_G} {y : Nat → ClassId} {A0 : Nat → Prop} {o : Int32 × ZS} (X : CallFix p m c cX0_put 3 s args wsX0_put RX0) (hret : zRv p l e ({ frames := 0, cells := 0, slots := 0, locals := 0 } : Room) s m args below meth c Q cX0_put D y A0 o) {x0 : Nat} {x1 : Int32} {x2 : Int32} {S : ZS} {H : Heap} {locs : List Loc} {ls : Array Slot} (hf : f_X0_put_0 x0 x1 x2 S = some o) (hM : zH D y A0 s H locs S) (hl : lv_has ls 3 [(0, .ref (zh y x0)), (1, .int x1), (2, .int x2)]) : W p l e ({ frames := 0, cells := 0, slots := 0, locals := 0 } : Room) s m args below meth c H locs 0 0 Q (F0 m 0 ls []) := by
  obtain ⟨hx, hb, hml, hown, hts⟩ := id X
  unfold f_X0_put_0 at hf
  refine lv_aload_n hx hb dX0_put_0 rfl (lv_at hl 0 rfl) ?_
  obtain ⟨ca, hf⟩ := m_chkE hf
  replace ca := z_in hM (by decide) ca
  refine z_get (k := 0) (j := 0) (C := RX0) (T := TX0) (N := 7) (fl := zf_0) (v := va_rf ((zP S 0 x0).map (zh y))) X hw_X0_put_0 hM rfl zc_0 ca (by decide) fl_X0_put_0_0 rfl dX0_put_1 ?_
  clear ca
  obtain ⟨b1, hb9, hf⟩ := m_calE hf
  refine z_topr hb9 ?_
  clear hb9
  refine lv_iload_n hx hb dX0_put_4 rfl (lv_at hl 1 rfl) ?_
  refine lv_iload_n hx hb dX0_put_5 rfl (lv_at hl 2 rfl) ?_
  obtain ⟨ca, hf⟩ := m_chkE hf
  replace ca := z_in hM (by decide) ca
  obtain ⟨cd, hf⟩ := m_chkE hf
  refine z_iast X hM ca cd dX0_put_6 (fun H locs hM => ?_)
  clear ca cd
  obtain ⟨S2, ev, hf⟩ := m_bndE hf
  replace hM := z_hS hM ev
  clear ev
  refine lv_iload_n hx hb dX0_put_7 rfl (lv_at hl 2 rfl) ?_
  refine lv_bipush (v := (6 : Int32)) hx hb dX0_put_8 (by decide) ?_
  refine lv_icmp_ne (tgt := 21) hx hb dX0_put_10 (by decide) (fun cc1 => ?_) (fun cc1 => ?_)
  · replace hf := m_ifF hf cc1
    refine lv_iload_n hx hb dX0_put_21 rfl (lv_at hl 2 rfl) ?_
    refine lv_bipush (v := (14 : Int32)) hx hb dX0_put_22 (by decide) ?_
    refine lv_icmp_ne (tgt := 32) hx hb dX0_put_24 (by decide) (fun cc1 => ?_) (fun cc1 => ?_)
    · replace hf := m_ifF hf cc1
      exact w_X0_put_32 X hret hf hM (lv_sub hl [] rfl)
    · replace hf := m_ifT hf cc1
      refine lv_aload_n hx hb dX0_put_27 rfl (lv_at hl 0 rfl) ?_
      refine lv_iload_n hx hb dX0_put_28 rfl (lv_at hl 1 rfl) ?_
      obtain ⟨ca, hf⟩ := m_chkE hf
      replace ca := z_in hM (by decide) ca
      refine z_putI (k := 0) (j := 2) (C := RX0) (T := TX0) (N := 7) (fl := zf_0) (ty := .int) X hw_X0_put_0 tyX0_ok nmX0 hM rfl zc_0 ca (by decide) fl_X0_put_0_2 rfl (tyX0_ok 2 (by decide)) rfl rfl zi_0_2 (Nat.le_of_ble_eq_true rfl) dX0_put_29 (fun H locs hM => ?_)
      clear ca
      obtain ⟨S3, ev, hf⟩ := m_bndE hf
      replace hM := z_hS hM ev
      clear ev
      exact w_X0_put_32 X hret hf hM (lv_sub hl [] rfl)
  · replace hf := m_ifT hf cc1
    refine lv_aload_n hx hb dX0_put_13 rfl (lv_at hl 0 rfl) ?_
    refine lv_iload_n hx hb dX0_put_14 rfl (lv_at hl 1 rfl) ?_
    obtain ⟨ca, hf⟩ := m_chkE hf
    replace ca := z_in hM (by decide) ca
    refine z_putI (k := 0) (j := 1) (C := RX0) (T := TX0) (N := 7) (fl := zf_0) (ty := .int) X hw_X0_put_0 tyX0_ok nmX0 hM rfl zc_0 ca (by decide) fl_X0_put_0_1 rfl (tyX0_ok 1 (by decide)) rfl rfl zi_0_1 (Nat.le_of_ble_eq_true rfl) dX0_put_15 (fun H locs hM => ?_)
    clear ca
    obtain ⟨S4, ev, hf⟩ := m_bndE hf
    replace hM := z_hS hM ev
    clear ev
    refine lv_goto (tgt := 32) hx hb dX0_put_18 (by decide) ?_
    exact w_X0_put_32 X hret hf hM (lv_sub hl [] rfl)
def f_X0_put (x0 : Nat) (x1 : Int32) (x2 : Int32) (S : ZS) : Option (Int32 × ZS) := f_X0_put_0 x0 x1 x2 S
theorem c_X0_put {l : Launch} {D : va_G} {y : Nat → ClassId} {x0 : Nat} {x1 : Int32} {x2 : Int32} {S : ZS} {o : Int32 × ZS} (hf : f_X0_put x0 x1 x2 S = some o) : zMv l yX0_put wsX0_put ({ frames := 0, cells := 0, slots := 0, locals := 0 } : Room) [.ref (zh y x0), .int x1, .int x2] D y S o :=
  z_entryV (own := RX0) (cc := cX0_put) (maxL := 3) (by decide) rfl rfl (Nat.le_of_ble_eq_true rfl) (fun p e s m args below meth c A0 Q H locs ls X hret hM hl => w_X0_put_0 X hret hf hM (lv_sub hl [0, 1, 2] rfl))
theorem hd_X0_setUp : yX0_setUp.cls = RX0 ∧ yX0_setUp.cls ≠ "java/lang/invoke/MethodHandle" ∧ yX0_setUp.cls ≠ "java/lang/invoke/VarHandle" ∧ (parseMethodDescriptor yX0_setUp.desc).map (fun d => d.parameters.length) = some 0 := by decide +kernel
theorem fl_X0_setUp_0_4 : Cond.fieldLink RX0 25 "MoveTexts$Board" "rights" "I" ∈ wsX0_setUp := by decide +kernel
theorem gs_X0_setUp_FIRST_RANK : Cond.fieldLink RX0 37 "MoveTexts$Board" "FIRST_RANK" "[I" ∈ wsX0_setUp := by decide +kernel
theorem hw_X0_setUp_0 : ∀ w ∈ wsX00, w ∈ wsX0_setUp := by decide +kernel
def f_X0_setUp_6s (self6 : Nat → Int32 → ZS → Option (Int32 × ZS)) (x0 : Nat) (x1 : Int32) (S : ZS) : Option (Int32 × ZS) :=
  m_if ((8 : Int32) ≤ x1) (
  m_chk (zK S x0 = 0) (
  m_bnd (zsI S 4 x0 (15 : Int32)) (fun S1 =>
  some (0, S1)))
  ) (
  m_chk (¬ (x1 < 0 ∨ 8 ≤ (x1).toNatClampNeg)) (
  m_bnd (zFR.getD (x1).toNatClampNeg 0) (fun v2 =>
  m_chk (zK S x0 = 0) (
  m_cal (f_X0_put x0 x1 v2 S) (fun o3 =>
  m_bnd (x1 + (8 : Int32)) (fun v4 =>
  m_chk (zK o3.2 x0 = 0) (
  m_cal (f_X0_put x0 v4 (1 : Int32) o3.2) (fun o5 =>
  m_bnd (x1 + (48 : Int32)) (fun v6 =>
  m_chk (zK o5.2 x0 = 0) (
  m_cal (f_X0_put x0 v6 (9 : Int32) o5.2) (fun o7 =>
  m_bnd (x1 + (56 : Int32)) (fun v8 =>
  m_chk (¬ (x1 < 0 ∨ 8 ≤ (x1).toNatClampNeg)) (
  m_bnd (zFR.getD (x1).toNatClampNeg 0) (fun v9 =>
  m_bnd (v9 + (8 : Int32)) (fun v10 =>
  m_chk (zK o7.2 x0 = 0) (
  m_cal (f_X0_put x0 v8 v10 o7.2) (fun o11 =>
  m_bnd (x1 + (1 : Int32)) (fun v12 =>
  self6 x0 v12 o11.2)))))))))))))))))
  )

set_option maxRecDepth 100000 in
set_option maxHeartbeats 4000000 in
theorem ws_X0_setUp_6 {p : Program} {l : Launch} {e : Env} {s : State} {m : MethodId} {args : Array Value} {below : List Frame} {meth : Method} {c : Code} {Q : State → Prop} {D : va_G} {y : Nat → ClassId} {A0 : Nat → Prop} {o : Int32 × ZS} (X : CallFix p m c cX0_setUp 2 s args wsX0_setUp RX0) (hret : zRv p l e ({ frames := 1, cells := 0, slots := 0, locals := 22 } : Room) s m args below meth c Q cX0_setUp D y A0 o) {self6 : Nat → Int32 → ZS → Option (Int32 × ZS)} (hself6 : ∀ (x0 : Nat) (x1 : Int32) (S : ZS) (H : Heap) (locs : List Loc) (ls : Array Slot), self6 x0 x1 S = some o → zH D y A0 s H locs S → lv_has ls 2 [(0, .ref (zh y x0)), (1, .int x1)] → W p l e ({ frames := 1, cells := 0, slots := 0, locals := 22 } : Room) s m args below meth c H locs 0 0 Q (F0 m 6 ls [])) {x0 : Nat} {x1 : Int32} {S : ZS} {H : Heap} {locs : List Loc} {ls : Array Slot} (hf : f_X0_setUp_6s self6 x0 x1 S = some o) (hM : zH D y A0 s H locs S) (hl : lv_has ls 2 [(0, .ref (zh y x0)), (1, .int x1)]) : W p l e ({ frames := 1, cells := 0, slots := 0, locals := 22 } : Room) s m args below meth c H locs 0 0 Q (F0 m 6 ls []) := by
  obtain ⟨hx, hb, hml, hown, hts⟩ := id X
  unfold f_X0_setUp_6s at hf
  refine lv_iload_n hx hb dX0_setUp_6 rfl (lv_at hl 1 rfl) ?_
  refine lv_bipush (v := (8 : Int32)) hx hb dX0_setUp_7 (by decide) ?_
  refine lv_icmp_ge (tgt := 63) hx hb dX0_setUp_9 (by decide) (fun cc1 => ?_) (fun cc1 => ?_)
  · replace hf := m_ifT hf cc1
    refine lv_aload_n hx hb dX0_setUp_63 rfl (lv_at hl 0 rfl) ?_
    refine lv_bipush (v := (15 : Int32)) hx hb dX0_setUp_64 (by decide) ?_
    obtain ⟨ca, hf⟩ := m_chkE hf
    replace ca := z_in hM (by decide) ca
    refine z_putI (k := 0) (j := 4) (C := RX0) (T := TX0) (N := 7) (fl := zf_0) (ty := .int) X hw_X0_setUp_0 tyX0_ok nmX0 hM rfl zc_0 ca (by decide) fl_X0_setUp_0_4 rfl (tyX0_ok 4 (by decide)) rfl rfl zi_0_4 (Nat.le_of_ble_eq_true rfl) dX0_setUp_66 (fun H locs hM => ?_)
    clear ca
    obtain ⟨S1, ev, hf⟩ := m_bndE hf
    replace hM := z_hS hM ev
    clear ev
    cases hf
    exact hret H locs _ ls hM dX0_setUp_69
  · replace hf := m_ifF hf cc1
    refine lv_aload_n hx hb dX0_setUp_12 rfl (lv_at hl 0 rfl) ?_
    refine lv_iload_n hx hb dX0_setUp_13 rfl (lv_at hl 1 rfl) ?_
    refine z_frank X hM gs_X0_setUp_FIRST_RANK dX0_setUp_14 ?_
    refine lv_iload_n hx hb dX0_setUp_17 rfl (lv_at hl 1 rfl) ?_
    obtain ⟨cd, hf⟩ := m_chkE hf
    refine z_frld X hM cd dX0_setUp_18 ?_
    clear cd
    obtain ⟨v2, ev, hf⟩ := m_bndE hf
    refine m_top ev ?_
    clear ev
    obtain ⟨ca, hf⟩ := m_chkE hf
    replace ca := z_in hM (by decide) ca
    obtain ⟨o3, ho, hf⟩ := m_calE hf
    refine z_callVv (k := 0) (C := RX0) (T := TX0) (N := 7) (fl := zf_0) X hM rfl zc_0 ca (c_X0_put ho) gX0_setUp_X0_put rfl ⟨rfl, rfl⟩ hd_X0_put ⟨Nat.le_of_ble_eq_true rfl, Nat.le_of_ble_eq_true rfl⟩ rfl hl.1 rfl (Nat.le_of_ble_eq_true rfl) dX0_setUp_19 (fun H locs hM => ?_)
    clear ho
    refine lv_aload_n hx hb dX0_setUp_22 rfl (lv_at hl 0 rfl) ?_
    refine lv_iload_n hx hb dX0_setUp_23 rfl (lv_at hl 1 rfl) ?_
    refine lv_bipush (v := (8 : Int32)) hx hb dX0_setUp_24 (by decide) ?_
    refine lv_iadd hx hb dX0_setUp_26 ?_
    obtain ⟨v4, ev, hf⟩ := m_bndE hf
    refine m_top ev ?_
    clear ev
    refine lv_iconst (v := (1 : Int32)) hx hb dX0_setUp_27 (by decide) ?_
    obtain ⟨ca, hf⟩ := m_chkE hf
    replace ca := z_in hM (by decide) ca
    obtain ⟨o5, ho, hf⟩ := m_calE hf
    refine z_callVv (k := 0) (C := RX0) (T := TX0) (N := 7) (fl := zf_0) X hM rfl zc_0 ca (c_X0_put ho) gX0_setUp_X0_put rfl ⟨rfl, rfl⟩ hd_X0_put ⟨Nat.le_of_ble_eq_true rfl, Nat.le_of_ble_eq_true rfl⟩ rfl hl.1 rfl (Nat.le_of_ble_eq_true rfl) dX0_setUp_28 (fun H locs hM => ?_)
    clear ho
    refine lv_aload_n hx hb dX0_setUp_31 rfl (lv_at hl 0 rfl) ?_
    refine lv_iload_n hx hb dX0_setUp_32 rfl (lv_at hl 1 rfl) ?_
    refine lv_bipush (v := (48 : Int32)) hx hb dX0_setUp_33 (by decide) ?_
    refine lv_iadd hx hb dX0_setUp_35 ?_
    obtain ⟨v6, ev, hf⟩ := m_bndE hf
    refine m_top ev ?_
    clear ev
    refine lv_bipush (v := (9 : Int32)) hx hb dX0_setUp_36 (by decide) ?_
    obtain ⟨ca, hf⟩ := m_chkE hf
    replace ca := z_in hM (by decide) ca
    obtain ⟨o7, ho, hf⟩ := m_calE hf
    refine z_callVv (k := 0) (C := RX0) (T := TX0) (N := 7) (fl := zf_0) X hM rfl zc_0 ca (c_X0_put ho) gX0_setUp_X0_put rfl ⟨rfl, rfl⟩ hd_X0_put ⟨Nat.le_of_ble_eq_true rfl, Nat.le_of_ble_eq_true rfl⟩ rfl hl.1 rfl (Nat.le_of_ble_eq_true rfl) dX0_setUp_38 (fun H locs hM => ?_)
    clear ho
    refine lv_aload_n hx hb dX0_setUp_41 rfl (lv_at hl 0 rfl) ?_
    refine lv_iload_n hx hb dX0_setUp_42 rfl (lv_at hl 1 rfl) ?_
    refine lv_bipush (v := (56 : Int32)) hx hb dX0_setUp_43 (by decide) ?_
    refine lv_iadd hx hb dX0_setUp_45 ?_
    obtain ⟨v8, ev, hf⟩ := m_bndE hf
    refine m_top ev ?_
    clear ev
    refine z_frank X hM gs_X0_setUp_FIRST_RANK dX0_setUp_46 ?_
    refine lv_iload_n hx hb dX0_setUp_49 rfl (lv_at hl 1 rfl) ?_
    obtain ⟨cd, hf⟩ := m_chkE hf
    refine z_frld X hM cd dX0_setUp_50 ?_
    clear cd
    obtain ⟨v9, ev, hf⟩ := m_bndE hf
    refine m_top ev ?_
    clear ev
    refine lv_bipush (v := (8 : Int32)) hx hb dX0_setUp_51 (by decide) ?_
    refine lv_iadd hx hb dX0_setUp_53 ?_
    obtain ⟨v10, ev, hf⟩ := m_bndE hf
    refine m_top ev ?_
    clear ev
    obtain ⟨ca, hf⟩ := m_chkE hf
    replace ca := z_in hM (by decide) ca
    obtain ⟨o11, ho, hf⟩ := m_calE hf
    refine z_callVv (k := 0) (C := RX0) (T := TX0) (N := 7) (fl := zf_0) X hM rfl zc_0 ca (c_X0_put ho) gX0_setUp_X0_put rfl ⟨rfl, rfl⟩ hd_X0_put ⟨Nat.le_of_ble_eq_true rfl, Nat.le_of_ble_eq_true rfl⟩ rfl hl.1 rfl (Nat.le_of_ble_eq_true rfl) dX0_setUp_54 (fun H locs hM => ?_)
    clear ho
    obtain ⟨v12, ev, hf⟩ := m_bndE hf
    refine lv_iinc (v := v12) (lv' := [(1, .int v12), (0, .ref (zh y x0))]) hx hb dX0_setUp_57 hl (k := 1) rfl (by rw [ev]; rfl) (by decide) rfl (fun ls hl => ?_)
    clear ev
    refine lv_goto (tgt := 6) hx hb dX0_setUp_60 (by decide) ?_
    exact hself6 x0 v12 _ _ _ _ hf hM (lv_sub hl [1, 0] rfl)
def f_X0_setUp_6 : Nat → Nat → Int32 → ZS → Option (Int32 × ZS)
  | 0 => fun _ _ _ => none
  | n + 1 => f_X0_setUp_6s (f_X0_setUp_6 n)
theorem w_X0_setUp_6 {p : Program} {l : Launch} {e : Env} {s : State} {m : MethodId} {args : Array Value} {below : List Frame} {meth : Method} {c : Code} {Q : State → Prop} {D : va_G} {y : Nat → ClassId} {A0 : Nat → Prop} {o : Int32 × ZS} (X : CallFix p m c cX0_setUp 2 s args wsX0_setUp RX0) (hret : zRv p l e ({ frames := 1, cells := 0, slots := 0, locals := 22 } : Room) s m args below meth c Q cX0_setUp D y A0 o) (n : Nat) : ∀ (x0 : Nat) (x1 : Int32) (S : ZS) (H : Heap) (locs : List Loc) (ls : Array Slot), f_X0_setUp_6 n x0 x1 S = some o → zH D y A0 s H locs S → lv_has ls 2 [(0, .ref (zh y x0)), (1, .int x1)] → W p l e ({ frames := 1, cells := 0, slots := 0, locals := 22 } : Room) s m args below meth c H locs 0 0 Q (F0 m 6 ls []) := by
  induction n with
  | zero => intro x0 x1 S H locs ls hf; cases hf
  | succ n ih => intro x0 x1 S H locs ls hf hM hl; exact ws_X0_setUp_6 X hret (self6 := f_X0_setUp_6 n) ih hf hM hl
def f_X0_setUp_0 (x0 : Nat) (S : ZS) : Option (Int32 × ZS) :=
  m_chk (zK S x0 = 0) (
  m_cal (f_X0_wipe x0 S) (fun o1 =>
  f_X0_setUp_6 mFuel x0 (0 : Int32) o1.2))

set_option maxRecDepth 100000 in
set_option maxHeartbeats 4000000 in
theorem w_X0_setUp_0 {p : Program} {l : Launch} {e : Env} {s : State} {m : MethodId} {args : Array Value} {below : List Frame} {meth : Method} {c : Code} {Q : State → Prop} {D : va_G} {y : Nat → ClassId} {A0 : Nat → Prop} {o : Int32 × ZS} (X : CallFix p m c cX0_setUp 2 s args wsX0_setUp RX0) (hret : zRv p l e ({ frames := 1, cells := 0, slots := 0, locals := 22 } : Room) s m args below meth c Q cX0_setUp D y A0 o) {x0 : Nat} {S : ZS} {H : Heap} {locs : List Loc} {ls : Array Slot} (hf : f_X0_setUp_0 x0 S = some o) (hM : zH D y A0 s H locs S) (hl : lv_has ls 2 [(0, .ref (zh y x0))]) : W p l e ({ frames := 1, cells := 0, slots := 0, locals := 22 } : Room) s m args below meth c H locs 0 0 Q (F0 m 0 ls []) := by
  obtain ⟨hx, hb, hml, hown, hts⟩ := id X
  unfold f_X0_setUp_0 at hf
  refine lv_aload_n hx hb dX0_setUp_0 rfl (lv_at hl 0 rfl) ?_
  obtain ⟨ca, hf⟩ := m_chkE hf
  replace ca := z_in hM (by decide) ca
  obtain ⟨o1, ho, hf⟩ := m_calE hf
  refine z_callVv (k := 0) (C := RX0) (T := TX0) (N := 7) (fl := zf_0) X hM rfl zc_0 ca (c_X0_wipe ho) gX0_setUp_X0_wipe rfl ⟨rfl, rfl⟩ hd_X0_wipe ⟨Nat.le_of_ble_eq_true rfl, Nat.le_of_ble_eq_true rfl⟩ rfl hl.1 rfl (Nat.le_of_ble_eq_true rfl) dX0_setUp_1 (fun H locs hM => ?_)
  clear ho
  refine lv_iconst (v := (0 : Int32)) hx hb dX0_setUp_4 (by decide) ?_
  refine lv_istore_n (lv' := [(1, .int (0 : Int32)), (0, .ref (zh y x0))]) hx hb dX0_setUp_5 rfl hl (by decide) rfl (fun ls hl => ?_)
  exact w_X0_setUp_6 X hret _ x0 (0 : Int32) _ _ _ _ hf hM (lv_sub hl [1, 0] rfl)
def f_X0_setUp (x0 : Nat) (S : ZS) : Option (Int32 × ZS) := f_X0_setUp_0 x0 S
theorem c_X0_setUp {l : Launch} {D : va_G} {y : Nat → ClassId} {x0 : Nat} {S : ZS} {o : Int32 × ZS} (hf : f_X0_setUp x0 S = some o) : zMv l yX0_setUp wsX0_setUp ({ frames := 1, cells := 0, slots := 0, locals := 22 } : Room) [.ref (zh y x0)] D y S o :=
  z_entryV (own := RX0) (cc := cX0_setUp) (maxL := 2) (by decide) rfl rfl (Nat.le_of_ble_eq_true rfl) (fun p e s m args below meth c A0 Q H locs ls X hret hM hl => w_X0_setUp_0 X hret hf hM (lv_sub hl [0] rfl))
theorem hd_X0_copyFrom : yX0_copyFrom.cls = RX0 ∧ yX0_copyFrom.cls ≠ "java/lang/invoke/MethodHandle" ∧ yX0_copyFrom.cls ≠ "java/lang/invoke/VarHandle" ∧ (parseMethodDescriptor yX0_copyFrom.desc).map (fun d => d.parameters.length) = some 1 := by decide +kernel
theorem ac_X0_copyFrom : (Cond.methodLink RX0 44 arraycopyName ∈ wsX0_copyFrom ∧ Cond.native arraycopyName ∈ wsX0_copyFrom) ∧ Cond.static arraycopyName ∈ wsX0_copyFrom ∧ Cond.initialized "java/lang/System" ∈ wsX0_copyFrom := by decide +kernel
theorem fl_X0_copyFrom_0_0 : Cond.fieldLink RX0 9 "MoveTexts$Board" "men" "[I" ∈ wsX0_copyFrom := by decide +kernel
theorem fl_X0_copyFrom_0_1 : Cond.fieldLink RX0 15 "MoveTexts$Board" "whiteKing" "I" ∈ wsX0_copyFrom := by decide +kernel
theorem fl_X0_copyFrom_0_2 : Cond.fieldLink RX0 19 "MoveTexts$Board" "blackKing" "I" ∈ wsX0_copyFrom := by decide +kernel
theorem fl_X0_copyFrom_0_3 : Cond.fieldLink RX0 22 "MoveTexts$Board" "side" "I" ∈ wsX0_copyFrom := by decide +kernel
theorem fl_X0_copyFrom_0_4 : Cond.fieldLink RX0 25 "MoveTexts$Board" "rights" "I" ∈ wsX0_copyFrom := by decide +kernel
theorem fl_X0_copyFrom_0_5 : Cond.fieldLink RX0 28 "MoveTexts$Board" "passed" "I" ∈ wsX0_copyFrom := by decide +kernel
theorem fl_X0_copyFrom_0_6 : Cond.fieldLink RX0 31 "MoveTexts$Board" "number" "I" ∈ wsX0_copyFrom := by decide +kernel
theorem hw_X0_copyFrom_0 : ∀ w ∈ wsX00, w ∈ wsX0_copyFrom := by decide +kernel
def f_X0_copyFrom_0 (x0 : Nat) (x1 : Nat) (S : ZS) : Option (Int32 × ZS) :=
  m_chk (zK S x1 = 0) (
  m_cal (zP S 0 x1) (fun b1 =>
  m_chk (zK S x0 = 0) (
  m_cal (zP S 0 x0) (fun b2 =>
  m_chk (zK S b1 = 14) (
  m_chk (zK S b2 = 14) (
  m_chk (¬ (0 : Int32) < 0 ∧ ¬ (0 : Int32) < 0 ∧ ¬ (64 : Int32) < 0 ∧ ((0 : Int32)).toNatClampNeg + ((64 : Int32)).toNatClampNeg ≤ zN S b1 ∧ ((0 : Int32)).toNatClampNeg + ((64 : Int32)).toNatClampNeg ≤ zN S b2) (
  m_bnd (zsC S b1 b2 ((0 : Int32)).toNatClampNeg ((0 : Int32)).toNatClampNeg ((64 : Int32)).toNatClampNeg) (fun S3 =>
  m_chk (zK S3 x1 = 0) (
  m_chk (zK S3 x0 = 0) (
  m_bnd (zsI S3 1 x0 (zI S3 1 x1)) (fun S4 =>
  m_chk (zK S4 x1 = 0) (
  m_chk (zK S4 x0 = 0) (
  m_bnd (zsI S4 2 x0 (zI S4 2 x1)) (fun S5 =>
  m_chk (zK S5 x1 = 0) (
  m_chk (zK S5 x0 = 0) (
  m_bnd (zsI S5 3 x0 (zI S5 3 x1)) (fun S6 =>
  m_chk (zK S6 x1 = 0) (
  m_chk (zK S6 x0 = 0) (
  m_bnd (zsI S6 4 x0 (zI S6 4 x1)) (fun S7 =>
  m_chk (zK S7 x1 = 0) (
  m_chk (zK S7 x0 = 0) (
  m_bnd (zsI S7 5 x0 (zI S7 5 x1)) (fun S8 =>
  m_chk (zK S8 x1 = 0) (
  m_chk (zK S8 x0 = 0) (
  m_bnd (zsI S8 6 x0 (zI S8 6 x1)) (fun S9 =>
  some (0, S9)))))))))))))))))))))))))))

set_option maxRecDepth 100000 in
set_option maxHeartbeats 4000000 in
theorem w_X0_copyFrom_0 {p : Program} {l : Launch} {e : Env} {s : State} {m : MethodId} {args : Array Value} {below : List Frame} {meth : Method} {c : Code} {Q : State → Prop} {D : va_G} {y : Nat → ClassId} {A0 : Nat → Prop} {o : Int32 × ZS} (X : CallFix p m c cX0_copyFrom 2 s args wsX0_copyFrom RX0) (hret : zRv p l e ({ frames := 1, cells := 0, slots := 0, locals := 60 } : Room) s m args below meth c Q cX0_copyFrom D y A0 o) {x0 : Nat} {x1 : Nat} {S : ZS} {H : Heap} {locs : List Loc} {ls : Array Slot} (hf : f_X0_copyFrom_0 x0 x1 S = some o) (hM : zH D y A0 s H locs S) (hl : lv_has ls 2 [(0, .ref (zh y x0)), (1, .ref (zh y x1))]) : W p l e ({ frames := 1, cells := 0, slots := 0, locals := 60 } : Room) s m args below meth c H locs 0 0 Q (F0 m 0 ls []) := by
  obtain ⟨hx, hb, hml, hown, hts⟩ := id X
  unfold f_X0_copyFrom_0 at hf
  refine lv_aload_n hx hb dX0_copyFrom_0 rfl (lv_at hl 1 rfl) ?_
  obtain ⟨ca, hf⟩ := m_chkE hf
  replace ca := z_in hM (by decide) ca
  refine z_get (k := 0) (j := 0) (C := RX0) (T := TX0) (N := 7) (fl := zf_0) (v := va_rf ((zP S 0 x1).map (zh y))) X hw_X0_copyFrom_0 hM rfl zc_0 ca (by decide) fl_X0_copyFrom_0_0 rfl dX0_copyFrom_1 ?_
  clear ca
  obtain ⟨b1, hb9, hf⟩ := m_calE hf
  refine z_topr hb9 ?_
  clear hb9
  refine lv_iconst (v := (0 : Int32)) hx hb dX0_copyFrom_4 (by decide) ?_
  refine lv_aload_n hx hb dX0_copyFrom_5 rfl (lv_at hl 0 rfl) ?_
  obtain ⟨ca, hf⟩ := m_chkE hf
  replace ca := z_in hM (by decide) ca
  refine z_get (k := 0) (j := 0) (C := RX0) (T := TX0) (N := 7) (fl := zf_0) (v := va_rf ((zP S 0 x0).map (zh y))) X hw_X0_copyFrom_0 hM rfl zc_0 ca (by decide) fl_X0_copyFrom_0_0 rfl dX0_copyFrom_6 ?_
  clear ca
  obtain ⟨b2, hb9, hf⟩ := m_calE hf
  refine z_topr hb9 ?_
  clear hb9
  refine lv_iconst (v := (0 : Int32)) hx hb dX0_copyFrom_9 (by decide) ?_
  refine lv_bipush (v := (64 : Int32)) hx hb dX0_copyFrom_10 (by decide) ?_
  obtain ⟨ca, hf⟩ := m_chkE hf
  replace ca := z_in hM (by decide) ca
  obtain ⟨cb, hf⟩ := m_chkE hf
  replace cb := z_in hM (by decide) cb
  obtain ⟨cd, hf⟩ := m_chkE hf
  refine z_copyi X hM (by rw [hml]; exact hl.1.symm) ac_X0_copyFrom.1 ac_X0_copyFrom.2 ca cb cd (Nat.le_of_ble_eq_true rfl) (Nat.le_of_ble_eq_true rfl) dX0_copyFrom_12 (fun H locs hM => ?_)
  clear ca cb cd
  obtain ⟨S3, ev, hf⟩ := m_bndE hf
  replace hM := z_hS hM ev
  clear ev
  refine lv_aload_n hx hb dX0_copyFrom_15 rfl (lv_at hl 0 rfl) ?_
  refine lv_aload_n hx hb dX0_copyFrom_16 rfl (lv_at hl 1 rfl) ?_
  obtain ⟨ca, hf⟩ := m_chkE hf
  replace ca := z_in hM (by decide) ca
  refine z_get (k := 0) (j := 1) (C := RX0) (T := TX0) (N := 7) (fl := zf_0) (v := .int (zI S3 1 x1)) X hw_X0_copyFrom_0 hM rfl zc_0 ca (by decide) fl_X0_copyFrom_0_1 rfl dX0_copyFrom_17 ?_
  clear ca
  obtain ⟨ca, hf⟩ := m_chkE hf
  replace ca := z_in hM (by decide) ca
  refine z_putI (k := 0) (j := 1) (C := RX0) (T := TX0) (N := 7) (fl := zf_0) (ty := .int) X hw_X0_copyFrom_0 tyX0_ok nmX0 hM rfl zc_0 ca (by decide) fl_X0_copyFrom_0_1 rfl (tyX0_ok 1 (by decide)) rfl rfl zi_0_1 (Nat.le_of_ble_eq_true rfl) dX0_copyFrom_20 (fun H locs hM => ?_)
  clear ca
  obtain ⟨S4, ev, hf⟩ := m_bndE hf
  replace hM := z_hS hM ev
  clear ev
  refine lv_aload_n hx hb dX0_copyFrom_23 rfl (lv_at hl 0 rfl) ?_
  refine lv_aload_n hx hb dX0_copyFrom_24 rfl (lv_at hl 1 rfl) ?_
  obtain ⟨ca, hf⟩ := m_chkE hf
  replace ca := z_in hM (by decide) ca
  refine z_get (k := 0) (j := 2) (C := RX0) (T := TX0) (N := 7) (fl := zf_0) (v := .int (zI S4 2 x1)) X hw_X0_copyFrom_0 hM rfl zc_0 ca (by decide) fl_X0_copyFrom_0_2 rfl dX0_copyFrom_25 ?_
  clear ca
  obtain ⟨ca, hf⟩ := m_chkE hf
  replace ca := z_in hM (by decide) ca
  refine z_putI (k := 0) (j := 2) (C := RX0) (T := TX0) (N := 7) (fl := zf_0) (ty := .int) X hw_X0_copyFrom_0 tyX0_ok nmX0 hM rfl zc_0 ca (by decide) fl_X0_copyFrom_0_2 rfl (tyX0_ok 2 (by decide)) rfl rfl zi_0_2 (Nat.le_of_ble_eq_true rfl) dX0_copyFrom_28 (fun H locs hM => ?_)
  clear ca
  obtain ⟨S5, ev, hf⟩ := m_bndE hf
  replace hM := z_hS hM ev
  clear ev
  refine lv_aload_n hx hb dX0_copyFrom_31 rfl (lv_at hl 0 rfl) ?_
  refine lv_aload_n hx hb dX0_copyFrom_32 rfl (lv_at hl 1 rfl) ?_
  obtain ⟨ca, hf⟩ := m_chkE hf
  replace ca := z_in hM (by decide) ca
  refine z_get (k := 0) (j := 3) (C := RX0) (T := TX0) (N := 7) (fl := zf_0) (v := .int (zI S5 3 x1)) X hw_X0_copyFrom_0 hM rfl zc_0 ca (by decide) fl_X0_copyFrom_0_3 rfl dX0_copyFrom_33 ?_
  clear ca
  obtain ⟨ca, hf⟩ := m_chkE hf
  replace ca := z_in hM (by decide) ca
  refine z_putI (k := 0) (j := 3) (C := RX0) (T := TX0) (N := 7) (fl := zf_0) (ty := .int) X hw_X0_copyFrom_0 tyX0_ok nmX0 hM rfl zc_0 ca (by decide) fl_X0_copyFrom_0_3 rfl (tyX0_ok 3 (by decide)) rfl rfl zi_0_3 (Nat.le_of_ble_eq_true rfl) dX0_copyFrom_36 (fun H locs hM => ?_)
  clear ca
  obtain ⟨S6, ev, hf⟩ := m_bndE hf
  replace hM := z_hS hM ev
  clear ev
  refine lv_aload_n hx hb dX0_copyFrom_39 rfl (lv_at hl 0 rfl) ?_
  refine lv_aload_n hx hb dX0_copyFrom_40 rfl (lv_at hl 1 rfl) ?_
  obtain ⟨ca, hf⟩ := m_chkE hf
  replace ca := z_in hM (by decide) ca
  refine z_get (k := 0) (j := 4) (C := RX0) (T := TX0) (N := 7) (fl := zf_0) (v := .int (zI S6 4 x1)) X hw_X0_copyFrom_0 hM rfl zc_0 ca (by decide) fl_X0_copyFrom_0_4 rfl dX0_copyFrom_41 ?_
  clear ca
  obtain ⟨ca, hf⟩ := m_chkE hf
  replace ca := z_in hM (by decide) ca
  refine z_putI (k := 0) (j := 4) (C := RX0) (T := TX0) (N := 7) (fl := zf_0) (ty := .int) X hw_X0_copyFrom_0 tyX0_ok nmX0 hM rfl zc_0 ca (by decide) fl_X0_copyFrom_0_4 rfl (tyX0_ok 4 (by decide)) rfl rfl zi_0_4 (Nat.le_of_ble_eq_true rfl) dX0_copyFrom_44 (fun H locs hM => ?_)
  clear ca
  obtain ⟨S7, ev, hf⟩ := m_bndE hf
  replace hM := z_hS hM ev
  clear ev
  refine lv_aload_n hx hb dX0_copyFrom_47 rfl (lv_at hl 0 rfl) ?_
  refine lv_aload_n hx hb dX0_copyFrom_48 rfl (lv_at hl 1 rfl) ?_
  obtain ⟨ca, hf⟩ := m_chkE hf
  replace ca := z_in hM (by decide) ca
  refine z_get (k := 0) (j := 5) (C := RX0) (T := TX0) (N := 7) (fl := zf_0) (v := .int (zI S7 5 x1)) X hw_X0_copyFrom_0 hM rfl zc_0 ca (by decide) fl_X0_copyFrom_0_5 rfl dX0_copyFrom_49 ?_
  clear ca
  obtain ⟨ca, hf⟩ := m_chkE hf
  replace ca := z_in hM (by decide) ca
  refine z_putI (k := 0) (j := 5) (C := RX0) (T := TX0) (N := 7) (fl := zf_0) (ty := .int) X hw_X0_copyFrom_0 tyX0_ok nmX0 hM rfl zc_0 ca (by decide) fl_X0_copyFrom_0_5 rfl (tyX0_ok 5 (by decide)) rfl rfl zi_0_5 (Nat.le_of_ble_eq_true rfl) dX0_copyFrom_52 (fun H locs hM => ?_)
  clear ca
  obtain ⟨S8, ev, hf⟩ := m_bndE hf
  replace hM := z_hS hM ev
  clear ev
  refine lv_aload_n hx hb dX0_copyFrom_55 rfl (lv_at hl 0 rfl) ?_
  refine lv_aload_n hx hb dX0_copyFrom_56 rfl (lv_at hl 1 rfl) ?_
  obtain ⟨ca, hf⟩ := m_chkE hf
  replace ca := z_in hM (by decide) ca
  refine z_get (k := 0) (j := 6) (C := RX0) (T := TX0) (N := 7) (fl := zf_0) (v := .int (zI S8 6 x1)) X hw_X0_copyFrom_0 hM rfl zc_0 ca (by decide) fl_X0_copyFrom_0_6 rfl dX0_copyFrom_57 ?_
  clear ca
  obtain ⟨ca, hf⟩ := m_chkE hf
  replace ca := z_in hM (by decide) ca
  refine z_putI (k := 0) (j := 6) (C := RX0) (T := TX0) (N := 7) (fl := zf_0) (ty := .int) X hw_X0_copyFrom_0 tyX0_ok nmX0 hM rfl zc_0 ca (by decide) fl_X0_copyFrom_0_6 rfl (tyX0_ok 6 (by decide)) rfl rfl zi_0_6 (Nat.le_of_ble_eq_true rfl) dX0_copyFrom_60 (fun H locs hM => ?_)
  clear ca
  obtain ⟨S9, ev, hf⟩ := m_bndE hf
  replace hM := z_hS hM ev
  clear ev
  cases hf
  exact hret H locs _ ls hM dX0_copyFrom_63
def f_X0_copyFrom (x0 : Nat) (x1 : Nat) (S : ZS) : Option (Int32 × ZS) := f_X0_copyFrom_0 x0 x1 S
theorem c_X0_copyFrom {l : Launch} {D : va_G} {y : Nat → ClassId} {x0 : Nat} {x1 : Nat} {S : ZS} {o : Int32 × ZS} (hf : f_X0_copyFrom x0 x1 S = some o) : zMv l yX0_copyFrom wsX0_copyFrom ({ frames := 1, cells := 0, slots := 0, locals := 60 } : Room) [.ref (zh y x0), .ref (zh y x1)] D y S o :=
  z_entryV (own := RX0) (cc := cX0_copyFrom) (maxL := 2) (by decide) rfl rfl (Nat.le_of_ble_eq_true rfl) (fun p e s m args below meth c A0 Q H locs ls X hret hM hl => w_X0_copyFrom_0 X hret hf hM (lv_sub hl [0, 1] rfl))
theorem hd_X0_kindAt : yX0_kindAt.cls = RX0 ∧ yX0_kindAt.cls ≠ "java/lang/invoke/MethodHandle" ∧ yX0_kindAt.cls ≠ "java/lang/invoke/VarHandle" ∧ (parseMethodDescriptor yX0_kindAt.desc).map (fun d => d.parameters.length) = some 1 := by decide +kernel
theorem fl_X0_kindAt_0_0 : Cond.fieldLink RX0 9 "MoveTexts$Board" "men" "[I" ∈ wsX0_kindAt := by decide +kernel
theorem hw_X0_kindAt_0 : ∀ w ∈ wsX00, w ∈ wsX0_kindAt := by decide +kernel
def f_X0_kindAt_0 (x0 : Nat) (x1 : Int32) (S : ZS) : Option (Int32 × ZS) :=
  m_chk (zK S x0 = 0) (
  m_cal (zP S 0 x0) (fun b1 =>
  m_chk (zK S b1 = 14) (
  m_chk (¬ (x1 < 0 ∨ zN S b1 ≤ (x1).toNatClampNeg)) (
  m_bnd (zA S b1 (x1).toNatClampNeg) (fun v2 =>
  m_bnd (v2 &&& (7 : Int32)) (fun v3 =>
  some (v3, S)))))))

set_option maxRecDepth 100000 in
set_option maxHeartbeats 4000000 in
theorem w_X0_kindAt_0 {p : Program} {l : Launch} {e : Env} {s : State} {m : MethodId} {args : Array Value} {below : List Frame} {meth : Method} {c : Code} {Q : State → Prop} {D : va_G} {y : Nat → ClassId} {A0 : Nat → Prop} {o : Int32 × ZS} (X : CallFix p m c cX0_kindAt 2 s args wsX0_kindAt RX0) (hret : zRi p l e ({ frames := 0, cells := 0, slots := 0, locals := 0 } : Room) s m args below meth c Q cX0_kindAt D y A0 .int o) {x0 : Nat} {x1 : Int32} {S : ZS} {H : Heap} {locs : List Loc} {ls : Array Slot} (hf : f_X0_kindAt_0 x0 x1 S = some o) (hM : zH D y A0 s H locs S) (hl : lv_has ls 2 [(0, .ref (zh y x0)), (1, .int x1)]) : W p l e ({ frames := 0, cells := 0, slots := 0, locals := 0 } : Room) s m args below meth c H locs 0 0 Q (F0 m 0 ls []) := by
  obtain ⟨hx, hb, hml, hown, hts⟩ := id X
  unfold f_X0_kindAt_0 at hf
  refine lv_aload_n hx hb dX0_kindAt_0 rfl (lv_at hl 0 rfl) ?_
  obtain ⟨ca, hf⟩ := m_chkE hf
  replace ca := z_in hM (by decide) ca
  refine z_get (k := 0) (j := 0) (C := RX0) (T := TX0) (N := 7) (fl := zf_0) (v := va_rf ((zP S 0 x0).map (zh y))) X hw_X0_kindAt_0 hM rfl zc_0 ca (by decide) fl_X0_kindAt_0_0 rfl dX0_kindAt_1 ?_
  clear ca
  obtain ⟨b1, hb9, hf⟩ := m_calE hf
  refine z_topr hb9 ?_
  clear hb9
  refine lv_iload_n hx hb dX0_kindAt_4 rfl (lv_at hl 1 rfl) ?_
  obtain ⟨ca, hf⟩ := m_chkE hf
  replace ca := z_in hM (by decide) ca
  obtain ⟨cd, hf⟩ := m_chkE hf
  refine z_iald X hM ca cd dX0_kindAt_5 ?_
  clear ca cd
  obtain ⟨v2, ev, hf⟩ := m_bndE hf
  refine m_top ev ?_
  clear ev
  refine lv_bipush (v := (7 : Int32)) hx hb dX0_kindAt_6 (by decide) ?_
  refine lv_iand hx hb dX0_kindAt_8 ?_
  obtain ⟨v3, ev, hf⟩ := m_bndE hf
  refine m_top ev ?_
  clear ev
  cases hf
  exact hret H locs _ ls hM rfl dX0_kindAt_9
def f_X0_kindAt (x0 : Nat) (x1 : Int32) (S : ZS) : Option (Int32 × ZS) := f_X0_kindAt_0 x0 x1 S
theorem c_X0_kindAt {l : Launch} {D : va_G} {y : Nat → ClassId} {x0 : Nat} {x1 : Int32} {S : ZS} {o : Int32 × ZS} (hf : f_X0_kindAt x0 x1 S = some o) : zMi l yX0_kindAt wsX0_kindAt ({ frames := 0, cells := 0, slots := 0, locals := 0 } : Room) [.ref (zh y x0), .int x1] D y S o :=
  z_entryI (own := RX0) (cc := cX0_kindAt) (maxL := 2) (by decide) rfl rfl (Nat.le_of_ble_eq_true rfl) (fun p e s m args below meth c A0 Q H locs ls X hret hM hl => w_X0_kindAt_0 X hret hf hM (lv_sub hl [0, 1] rfl))
theorem hd_X0_kingOf : yX0_kingOf.cls = RX0 ∧ yX0_kingOf.cls ≠ "java/lang/invoke/MethodHandle" ∧ yX0_kingOf.cls ≠ "java/lang/invoke/VarHandle" ∧ (parseMethodDescriptor yX0_kingOf.desc).map (fun d => d.parameters.length) = some 1 := by decide +kernel
theorem fl_X0_kingOf_0_1 : Cond.fieldLink RX0 15 "MoveTexts$Board" "whiteKing" "I" ∈ wsX0_kingOf := by decide +kernel
theorem fl_X0_kingOf_0_2 : Cond.fieldLink RX0 19 "MoveTexts$Board" "blackKing" "I" ∈ wsX0_kingOf := by decide +kernel
theorem hw_X0_kingOf_0 : ∀ w ∈ wsX00, w ∈ wsX0_kingOf := by decide +kernel
def f_X0_kingOf_15 (t0 : Int32) (S : ZS) : Option (Int32 × ZS) :=
  some (t0, S)

set_option maxRecDepth 100000 in
set_option maxHeartbeats 4000000 in
theorem w_X0_kingOf_15 {p : Program} {l : Launch} {e : Env} {s : State} {m : MethodId} {args : Array Value} {below : List Frame} {meth : Method} {c : Code} {Q : State → Prop} {D : va_G} {y : Nat → ClassId} {A0 : Nat → Prop} {o : Int32 × ZS} (X : CallFix p m c cX0_kingOf 2 s args wsX0_kingOf RX0) (hret : zRi p l e ({ frames := 0, cells := 0, slots := 0, locals := 0 } : Room) s m args below meth c Q cX0_kingOf D y A0 .int o) {t0 : Int32} {S : ZS} {H : Heap} {locs : List Loc} {ls : Array Slot} (hf : f_X0_kingOf_15 t0 S = some o) (hM : zH D y A0 s H locs S) (hl : lv_has ls 2 []) : W p l e ({ frames := 0, cells := 0, slots := 0, locals := 0 } : Room) s m args below meth c H locs 0 0 Q (F0 m 15 ls [.int t0]) := by
  obtain ⟨hx, hb, hml, hown, hts⟩ := id X
  unfold f_X0_kingOf_15 at hf
  cases hf
  exact hret H locs _ ls hM rfl dX0_kingOf_15
def f_X0_kingOf_0 (x0 : Nat) (x1 : Int32) (S : ZS) : Option (Int32 × ZS) :=
  m_if (x1 = 0) (
  m_chk (zK S x0 = 0) (
  f_X0_kingOf_15 (zI S 1 x0) S)
  ) (
  m_chk (zK S x0 = 0) (
  f_X0_kingOf_15 (zI S 2 x0) S)
  )

set_option maxRecDepth 100000 in
set_option maxHeartbeats 4000000 in
theorem w_X0_kingOf_0 {p : Program} {l : Launch} {e : Env} {s : State} {m : MethodId} {args : Array Value} {below : List Frame} {meth : Method} {c : Code} {Q : State → Prop} {D : va_G} {y : Nat → ClassId} {A0 : Nat → Prop} {o : Int32 × ZS} (X : CallFix p m c cX0_kingOf 2 s args wsX0_kingOf RX0) (hret : zRi p l e ({ frames := 0, cells := 0, slots := 0, locals := 0 } : Room) s m args below meth c Q cX0_kingOf D y A0 .int o) {x0 : Nat} {x1 : Int32} {S : ZS} {H : Heap} {locs : List Loc} {ls : Array Slot} (hf : f_X0_kingOf_0 x0 x1 S = some o) (hM : zH D y A0 s H locs S) (hl : lv_has ls 2 [(0, .ref (zh y x0)), (1, .int x1)]) : W p l e ({ frames := 0, cells := 0, slots := 0, locals := 0 } : Room) s m args below meth c H locs 0 0 Q (F0 m 0 ls []) := by
  obtain ⟨hx, hb, hml, hown, hts⟩ := id X
  unfold f_X0_kingOf_0 at hf
  refine lv_iload_n hx hb dX0_kingOf_0 rfl (lv_at hl 1 rfl) ?_
  refine lv_if_ne (tgt := 11) hx hb dX0_kingOf_1 (by decide) (fun cc1 => ?_) (fun cc1 => ?_)
  · replace hf := m_ifF hf cc1
    refine lv_aload_n hx hb dX0_kingOf_11 rfl (lv_at hl 0 rfl) ?_
    obtain ⟨ca, hf⟩ := m_chkE hf
    replace ca := z_in hM (by decide) ca
    refine z_get (k := 0) (j := 2) (C := RX0) (T := TX0) (N := 7) (fl := zf_0) (v := .int (zI S 2 x0)) X hw_X0_kingOf_0 hM rfl zc_0 ca (by decide) fl_X0_kingOf_0_2 rfl dX0_kingOf_12 ?_
    clear ca
    exact w_X0_kingOf_15 (t0 := (zI S 2 x0)) X hret hf hM (lv_sub hl [] rfl)
  · replace hf := m_ifT hf cc1
    refine lv_aload_n hx hb dX0_kingOf_4 rfl (lv_at hl 0 rfl) ?_
    obtain ⟨ca, hf⟩ := m_chkE hf
    replace ca := z_in hM (by decide) ca
    refine z_get (k := 0) (j := 1) (C := RX0) (T := TX0) (N := 7) (fl := zf_0) (v := .int (zI S 1 x0)) X hw_X0_kingOf_0 hM rfl zc_0 ca (by decide) fl_X0_kingOf_0_1 rfl dX0_kingOf_5 ?_
    clear ca
    refine lv_goto (tgt := 15) hx hb dX0_kingOf_8 (by decide) ?_
    exact w_X0_kingOf_15 (t0 := (zI S 1 x0)) X hret hf hM (lv_sub hl [] rfl)
def f_X0_kingOf (x0 : Nat) (x1 : Int32) (S : ZS) : Option (Int32 × ZS) := f_X0_kingOf_0 x0 x1 S
theorem c_X0_kingOf {l : Launch} {D : va_G} {y : Nat → ClassId} {x0 : Nat} {x1 : Int32} {S : ZS} {o : Int32 × ZS} (hf : f_X0_kingOf x0 x1 S = some o) : zMi l yX0_kingOf wsX0_kingOf ({ frames := 0, cells := 0, slots := 0, locals := 0 } : Room) [.ref (zh y x0), .int x1] D y S o :=
  z_entryI (own := RX0) (cc := cX0_kingOf) (maxL := 2) (by decide) rfl rfl (Nat.le_of_ble_eq_true rfl) (fun p e s m args below meth c A0 Q H locs ls X hret hM hl => w_X0_kingOf_0 X hret hf hM (lv_sub hl [0, 1] rfl))
theorem hd_X0_attacks : yX0_attacks.cls = RX0 ∧ yX0_attacks.cls ≠ "java/lang/invoke/MethodHandle" ∧ yX0_attacks.cls ≠ "java/lang/invoke/VarHandle" ∧ (parseMethodDescriptor yX0_attacks.desc).map (fun d => d.parameters.length) = some 2 := by decide +kernel
theorem fl_X0_attacks_0_0 : Cond.fieldLink RX0 9 "MoveTexts$Board" "men" "[I" ∈ wsX0_attacks := by decide +kernel
theorem hw_X0_attacks_0 : ∀ w ∈ wsX00, w ∈ wsX0_attacks := by decide +kernel
def f_X0_attacks_235 (S : ZS) : Option (Int32 × ZS) :=
  m_chk (vp_nar .boolean (0 : Int32) = (0 : Int32)) (some ((0 : Int32), S))

set_option maxRecDepth 100000 in
set_option maxHeartbeats 4000000 in
theorem w_X0_attacks_235 {p : Program} {l : Launch} {e : Env} {s : State} {m : MethodId} {args : Array Value} {below : List Frame} {meth : Method} {c : Code} {Q : State → Prop} {D : va_G} {y : Nat → ClassId} {A0 : Nat → Prop} {o : Int32 × ZS} (X : CallFix p m c cX0_attacks 13 s args wsX0_attacks RX0) (hret : zRi p l e ({ frames := 0, cells := 0, slots := 0, locals := 0 } : Room) s m args below meth c Q cX0_attacks D y A0 .boolean o) {S : ZS} {H : Heap} {locs : List Loc} {ls : Array Slot} (hf : f_X0_attacks_235  S = some o) (hM : zH D y A0 s H locs S) (hl : lv_has ls 13 []) : W p l e ({ frames := 0, cells := 0, slots := 0, locals := 0 } : Room) s m args below meth c H locs 0 0 Q (F0 m 235 ls []) := by
  obtain ⟨hx, hb, hml, hown, hts⟩ := id X
  unfold f_X0_attacks_235 at hf
  refine lv_iconst (v := (0 : Int32)) hx hb dX0_attacks_235 (by decide) ?_
  obtain ⟨cd, hf⟩ := m_chkE hf
  cases hf
  exact hret H locs _ ls hM (m_nb cd) dX0_attacks_236
def f_X0_attacks_281s (self281 : Nat → Int32 → Int32 → Int32 → Int32 → ZS → Option (Int32 × ZS)) (x0 : Nat) (x1 : Int32) (x8 : Int32) (x11 : Int32) (x12 : Int32) (S : ZS) : Option (Int32 × ZS) :=
  m_if (x8 ≤ x12) (
  m_chk (vp_nar .boolean (1 : Int32) = (1 : Int32)) (some ((1 : Int32), S))
  ) (
  m_chk (zK S x0 = 0) (
  m_cal (zP S 0 x0) (fun b1 =>
  m_bnd (x12 * x11) (fun v2 =>
  m_bnd (x1 + v2) (fun v3 =>
  m_chk (zK S b1 = 14) (
  m_chk (¬ (v3 < 0 ∨ zN S b1 ≤ (v3).toNatClampNeg)) (
  m_bnd (zA S b1 (v3).toNatClampNeg) (fun v4 =>
  m_if (v4 = 0) (
  m_bnd (x12 + (1 : Int32)) (fun v5 =>
  self281 x0 x1 x8 x11 v5 S)
  ) (
  m_chk (vp_nar .boolean (0 : Int32) = (0 : Int32)) (some ((0 : Int32), S))
  ))))))))
  )

set_option maxRecDepth 100000 in
set_option maxHeartbeats 4000000 in
theorem ws_X0_attacks_281 {p : Program} {l : Launch} {e : Env} {s : State} {m : MethodId} {args : Array Value} {below : List Frame} {meth : Method} {c : Code} {Q : State → Prop} {D : va_G} {y : Nat → ClassId} {A0 : Nat → Prop} {o : Int32 × ZS} (X : CallFix p m c cX0_attacks 13 s args wsX0_attacks RX0) (hret : zRi p l e ({ frames := 0, cells := 0, slots := 0, locals := 0 } : Room) s m args below meth c Q cX0_attacks D y A0 .boolean o) {self281 : Nat → Int32 → Int32 → Int32 → Int32 → ZS → Option (Int32 × ZS)} (hself281 : ∀ (x0 : Nat) (x1 : Int32) (x8 : Int32) (x11 : Int32) (x12 : Int32) (S : ZS) (H : Heap) (locs : List Loc) (ls : Array Slot), self281 x0 x1 x8 x11 x12 S = some o → zH D y A0 s H locs S → lv_has ls 13 [(0, .ref (zh y x0)), (1, .int x1), (8, .int x8), (11, .int x11), (12, .int x12)] → W p l e ({ frames := 0, cells := 0, slots := 0, locals := 0 } : Room) s m args below meth c H locs 0 0 Q (F0 m 281 ls [])) {x0 : Nat} {x1 : Int32} {x8 : Int32} {x11 : Int32} {x12 : Int32} {S : ZS} {H : Heap} {locs : List Loc} {ls : Array Slot} (hf : f_X0_attacks_281s self281 x0 x1 x8 x11 x12 S = some o) (hM : zH D y A0 s H locs S) (hl : lv_has ls 13 [(0, .ref (zh y x0)), (1, .int x1), (8, .int x8), (11, .int x11), (12, .int x12)]) : W p l e ({ frames := 0, cells := 0, slots := 0, locals := 0 } : Room) s m args below meth c H locs 0 0 Q (F0 m 281 ls []) := by
  obtain ⟨hx, hb, hml, hown, hts⟩ := id X
  unfold f_X0_attacks_281s at hf
  refine lv_iload hx hb dX0_attacks_281 (lv_at hl 4 rfl) ?_
  refine lv_iload hx hb dX0_attacks_283 (lv_at hl 2 rfl) ?_
  refine lv_icmp_ge (tgt := 311) hx hb dX0_attacks_285 (by decide) (fun cc1 => ?_) (fun cc1 => ?_)
  · replace hf := m_ifT hf cc1
    refine lv_iconst (v := (1 : Int32)) hx hb dX0_attacks_311 (by decide) ?_
    obtain ⟨cd, hf⟩ := m_chkE hf
    cases hf
    exact hret H locs _ ls hM (m_nb cd) dX0_attacks_312
  · replace hf := m_ifF hf cc1
    refine lv_aload_n hx hb dX0_attacks_288 rfl (lv_at hl 0 rfl) ?_
    obtain ⟨ca, hf⟩ := m_chkE hf
    replace ca := z_in hM (by decide) ca
    refine z_get (k := 0) (j := 0) (C := RX0) (T := TX0) (N := 7) (fl := zf_0) (v := va_rf ((zP S 0 x0).map (zh y))) X hw_X0_attacks_0 hM rfl zc_0 ca (by decide) fl_X0_attacks_0_0 rfl dX0_attacks_289 ?_
    clear ca
    obtain ⟨b1, hb9, hf⟩ := m_calE hf
    refine z_topr hb9 ?_
    clear hb9
    refine lv_iload_n hx hb dX0_attacks_292 rfl (lv_at hl 1 rfl) ?_
    refine lv_iload hx hb dX0_attacks_293 (lv_at hl 4 rfl) ?_
    refine lv_iload hx hb dX0_attacks_295 (lv_at hl 3 rfl) ?_
    refine lv_imul hx hb dX0_attacks_297 ?_
    obtain ⟨v2, ev, hf⟩ := m_bndE hf
    refine m_top ev ?_
    clear ev
    refine lv_iadd hx hb dX0_attacks_298 ?_
    obtain ⟨v3, ev, hf⟩ := m_bndE hf
    refine m_top ev ?_
    clear ev
    obtain ⟨ca, hf⟩ := m_chkE hf
    replace ca := z_in hM (by decide) ca
    obtain ⟨cd, hf⟩ := m_chkE hf
    refine z_iald X hM ca cd dX0_attacks_299 ?_
    clear ca cd
    obtain ⟨v4, ev, hf⟩ := m_bndE hf
    refine m_top ev ?_
    clear ev
    refine lv_if_eq (tgt := 305) hx hb dX0_attacks_300 (by decide) (fun cc1 => ?_) (fun cc1 => ?_)
    · replace hf := m_ifT hf cc1
      obtain ⟨v5, ev, hf⟩ := m_bndE hf
      refine lv_iinc (v := v5) (lv' := [(12, .int v5), (0, .ref (zh y x0)), (1, .int x1), (8, .int x8), (11, .int x11)]) hx hb dX0_attacks_305 hl (k := 4) rfl (by rw [ev]; rfl) (by decide) rfl (fun ls hl => ?_)
      clear ev
      refine lv_goto (tgt := 281) hx hb dX0_attacks_308 (by decide) ?_
      exact hself281 x0 x1 x8 x11 v5 _ _ _ _ hf hM (lv_sub hl [1, 2, 3, 4, 0] rfl)
    · replace hf := m_ifF hf cc1
      refine lv_iconst (v := (0 : Int32)) hx hb dX0_attacks_303 (by decide) ?_
      obtain ⟨cd, hf⟩ := m_chkE hf
      cases hf
      exact hret H locs _ ls hM (m_nb cd) dX0_attacks_304
def f_X0_attacks_281 : Nat → Nat → Int32 → Int32 → Int32 → Int32 → ZS → Option (Int32 × ZS)
  | 0 => fun _ _ _ _ _ _ => none
  | n + 1 => f_X0_attacks_281s (f_X0_attacks_281 n)
theorem w_X0_attacks_281 {p : Program} {l : Launch} {e : Env} {s : State} {m : MethodId} {args : Array Value} {below : List Frame} {meth : Method} {c : Code} {Q : State → Prop} {D : va_G} {y : Nat → ClassId} {A0 : Nat → Prop} {o : Int32 × ZS} (X : CallFix p m c cX0_attacks 13 s args wsX0_attacks RX0) (hret : zRi p l e ({ frames := 0, cells := 0, slots := 0, locals := 0 } : Room) s m args below meth c Q cX0_attacks D y A0 .boolean o) (n : Nat) : ∀ (x0 : Nat) (x1 : Int32) (x8 : Int32) (x11 : Int32) (x12 : Int32) (S : ZS) (H : Heap) (locs : List Loc) (ls : Array Slot), f_X0_attacks_281 n x0 x1 x8 x11 x12 S = some o → zH D y A0 s H locs S → lv_has ls 13 [(0, .ref (zh y x0)), (1, .int x1), (8, .int x8), (11, .int x11), (12, .int x12)] → W p l e ({ frames := 0, cells := 0, slots := 0, locals := 0 } : Room) s m args below meth c H locs 0 0 Q (F0 m 281 ls []) := by
  induction n with
  | zero => intro x0 x1 x8 x11 x12 S H locs ls hf; cases hf
  | succ n ih => intro x0 x1 x8 x11 x12 S H locs ls hf hM hl; exact ws_X0_attacks_281 X hret (self281 := f_X0_attacks_281 n) ih hf hM hl
def f_X0_attacks_275 (x0 : Nat) (x1 : Int32) (x8 : Int32) (t0 : Int32) (t1 : Int32) (S : ZS) : Option (Int32 × ZS) :=
  m_bnd (t1 + t0) (fun v1 =>
  f_X0_attacks_281 mFuel x0 x1 x8 v1 (1 : Int32) S)

set_option maxRecDepth 100000 in
set_option maxHeartbeats 4000000 in
theorem w_X0_attacks_275 {p : Program} {l : Launch} {e : Env} {s : State} {m : MethodId} {args : Array Value} {below : List Frame} {meth : Method} {c : Code} {Q : State → Prop} {D : va_G} {y : Nat → ClassId} {A0 : Nat → Prop} {o : Int32 × ZS} (X : CallFix p m c cX0_attacks 13 s args wsX0_attacks RX0) (hret : zRi p l e ({ frames := 0, cells := 0, slots := 0, locals := 0 } : Room) s m args below meth c Q cX0_attacks D y A0 .boolean o) {x0 : Nat} {x1 : Int32} {x8 : Int32} {t0 : Int32} {t1 : Int32} {S : ZS} {H : Heap} {locs : List Loc} {ls : Array Slot} (hf : f_X0_attacks_275 x0 x1 x8 t0 t1 S = some o) (hM : zH D y A0 s H locs S) (hl : lv_has ls 13 [(0, .ref (zh y x0)), (1, .int x1), (8, .int x8)]) : W p l e ({ frames := 0, cells := 0, slots := 0, locals := 0 } : Room) s m args below meth c H locs 0 0 Q (F0 m 275 ls [.int t0, .int t1]) := by
  obtain ⟨hx, hb, hml, hown, hts⟩ := id X
  unfold f_X0_attacks_275 at hf
  refine lv_iadd hx hb dX0_attacks_275 ?_
  obtain ⟨v1, ev, hf⟩ := m_bndE hf
  refine m_top ev ?_
  clear ev
  refine lv_istore (lv' := [(11, .int v1), (0, .ref (zh y x0)), (1, .int x1), (8, .int x8)]) hx hb dX0_attacks_276 hl (by decide) rfl (fun ls hl => ?_)
  refine lv_iconst (v := (1 : Int32)) hx hb dX0_attacks_278 (by decide) ?_
  refine lv_istore (lv' := [(12, .int (1 : Int32)), (11, .int v1), (0, .ref (zh y x0)), (1, .int x1), (8, .int x8)]) hx hb dX0_attacks_279 hl (by decide) rfl (fun ls hl => ?_)
  exact w_X0_attacks_281 X hret _ x0 x1 x8 v1 (1 : Int32) _ _ _ _ hf hM (lv_sub hl [2, 3, 4, 1, 0] rfl)
def f_X0_attacks_254 (x0 : Nat) (x1 : Int32) (x4 : Int32) (x8 : Int32) (t0 : Int32) (S : ZS) : Option (Int32 × ZS) :=
  m_if (x4 ≤ 0) (
  m_if (0 ≤ x4) (
  f_X0_attacks_275 x0 x1 x8 (0 : Int32) t0 S
  ) (
  f_X0_attacks_275 x0 x1 x8 (-8 : Int32) t0 S
  )
  ) (
  f_X0_attacks_275 x0 x1 x8 (8 : Int32) t0 S
  )

set_option maxRecDepth 100000 in
set_option maxHeartbeats 4000000 in
theorem w_X0_attacks_254 {p : Program} {l : Launch} {e : Env} {s : State} {m : MethodId} {args : Array Value} {below : List Frame} {meth : Method} {c : Code} {Q : State → Prop} {D : va_G} {y : Nat → ClassId} {A0 : Nat → Prop} {o : Int32 × ZS} (X : CallFix p m c cX0_attacks 13 s args wsX0_attacks RX0) (hret : zRi p l e ({ frames := 0, cells := 0, slots := 0, locals := 0 } : Room) s m args below meth c Q cX0_attacks D y A0 .boolean o) {x0 : Nat} {x1 : Int32} {x4 : Int32} {x8 : Int32} {t0 : Int32} {S : ZS} {H : Heap} {locs : List Loc} {ls : Array Slot} (hf : f_X0_attacks_254 x0 x1 x4 x8 t0 S = some o) (hM : zH D y A0 s H locs S) (hl : lv_has ls 13 [(0, .ref (zh y x0)), (1, .int x1), (4, .int x4), (8, .int x8)]) : W p l e ({ frames := 0, cells := 0, slots := 0, locals := 0 } : Room) s m args below meth c H locs 0 0 Q (F0 m 254 ls [.int t0]) := by
  obtain ⟨hx, hb, hml, hown, hts⟩ := id X
  unfold f_X0_attacks_254 at hf
  refine lv_iload hx hb dX0_attacks_254 (lv_at hl 2 rfl) ?_
  refine lv_if_le (tgt := 264) hx hb dX0_attacks_256 (by decide) (fun cc1 => ?_) (fun cc1 => ?_)
  · replace hf := m_ifT hf cc1
    refine lv_iload hx hb dX0_attacks_264 (lv_at hl 2 rfl) ?_
    refine lv_if_ge (tgt := 274) hx hb dX0_attacks_266 (by decide) (fun cc1 => ?_) (fun cc1 => ?_)
    · replace hf := m_ifT hf cc1
      refine lv_iconst (v := (0 : Int32)) hx hb dX0_attacks_274 (by decide) ?_
      exact w_X0_attacks_275 (x0 := x0) (x1 := x1) (x8 := x8) (t0 := (0 : Int32)) (t1 := t0) X hret hf hM (lv_sub hl [0, 1, 3] rfl)
    · replace hf := m_ifF hf cc1
      refine lv_bipush (v := (-8 : Int32)) hx hb dX0_attacks_269 (by decide) ?_
      refine lv_goto (tgt := 275) hx hb dX0_attacks_271 (by decide) ?_
      exact w_X0_attacks_275 (x0 := x0) (x1 := x1) (x8 := x8) (t0 := (-8 : Int32)) (t1 := t0) X hret hf hM (lv_sub hl [0, 1, 3] rfl)
  · replace hf := m_ifF hf cc1
    refine lv_bipush (v := (8 : Int32)) hx hb dX0_attacks_259 (by decide) ?_
    refine lv_goto (tgt := 275) hx hb dX0_attacks_261 (by decide) ?_
    exact w_X0_attacks_275 (x0 := x0) (x1 := x1) (x8 := x8) (t0 := (8 : Int32)) (t1 := t0) X hret hf hM (lv_sub hl [0, 1, 3] rfl)
def f_X0_attacks_223 (x0 : Nat) (x1 : Int32) (x3 : Int32) (x4 : Int32) (x8 : Int32) (t0 : Int32) (S : ZS) : Option (Int32 × ZS) :=
  m_if (t0 = 0) (
  f_X0_attacks_235  S
  ) (
  m_if (x8 = 0) (
  f_X0_attacks_235  S
  ) (
  m_if (x3 ≤ 0) (
  m_if (0 ≤ x3) (
  f_X0_attacks_254 x0 x1 x4 x8 (0 : Int32) S
  ) (
  f_X0_attacks_254 x0 x1 x4 x8 (-1 : Int32) S
  )
  ) (
  f_X0_attacks_254 x0 x1 x4 x8 (1 : Int32) S
  )
  )
  )

set_option maxRecDepth 100000 in
set_option maxHeartbeats 4000000 in
theorem w_X0_attacks_223 {p : Program} {l : Launch} {e : Env} {s : State} {m : MethodId} {args : Array Value} {below : List Frame} {meth : Method} {c : Code} {Q : State → Prop} {D : va_G} {y : Nat → ClassId} {A0 : Nat → Prop} {o : Int32 × ZS} (X : CallFix p m c cX0_attacks 13 s args wsX0_attacks RX0) (hret : zRi p l e ({ frames := 0, cells := 0, slots := 0, locals := 0 } : Room) s m args below meth c Q cX0_attacks D y A0 .boolean o) {x0 : Nat} {x1 : Int32} {x3 : Int32} {x4 : Int32} {x8 : Int32} {t0 : Int32} {S : ZS} {H : Heap} {locs : List Loc} {ls : Array Slot} (hf : f_X0_attacks_223 x0 x1 x3 x4 x8 t0 S = some o) (hM : zH D y A0 s H locs S) (hl : lv_has ls 13 [(0, .ref (zh y x0)), (1, .int x1), (3, .int x3), (4, .int x4), (8, .int x8)]) : W p l e ({ frames := 0, cells := 0, slots := 0, locals := 0 } : Room) s m args below meth c H locs 0 0 Q (F0 m 223 ls [.int t0]) := by
  obtain ⟨hx, hb, hml, hown, hts⟩ := id X
  unfold f_X0_attacks_223 at hf
  refine lv_istore (lv' := [(10, .int t0), (0, .ref (zh y x0)), (1, .int x1), (3, .int x3), (4, .int x4), (8, .int x8)]) hx hb dX0_attacks_223 hl (by decide) rfl (fun ls hl => ?_)
  refine lv_iload hx hb dX0_attacks_225 (lv_at hl 0 rfl) ?_
  refine lv_if_eq (tgt := 235) hx hb dX0_attacks_227 (by decide) (fun cc1 => ?_) (fun cc1 => ?_)
  · replace hf := m_ifT hf cc1
    exact w_X0_attacks_235 X hret hf hM (lv_sub hl [] rfl)
  · replace hf := m_ifF hf cc1
    refine lv_iload hx hb dX0_attacks_230 (lv_at hl 5 rfl) ?_
    refine lv_if_ne (tgt := 237) hx hb dX0_attacks_232 (by decide) (fun cc1 => ?_) (fun cc1 => ?_)
    · replace hf := m_ifF hf cc1
      refine lv_iload_n hx hb dX0_attacks_237 rfl (lv_at hl 3 rfl) ?_
      refine lv_if_le (tgt := 245) hx hb dX0_attacks_238 (by decide) (fun cc1 => ?_) (fun cc1 => ?_)
      · replace hf := m_ifT hf cc1
        refine lv_iload_n hx hb dX0_attacks_245 rfl (lv_at hl 3 rfl) ?_
        refine lv_if_ge (tgt := 253) hx hb dX0_attacks_246 (by decide) (fun cc1 => ?_) (fun cc1 => ?_)
        · replace hf := m_ifT hf cc1
          refine lv_iconst (v := (0 : Int32)) hx hb dX0_attacks_253 (by decide) ?_
          exact w_X0_attacks_254 (x0 := x0) (x1 := x1) (x4 := x4) (x8 := x8) (t0 := (0 : Int32)) X hret hf hM (lv_sub hl [1, 2, 4, 5] rfl)
        · replace hf := m_ifF hf cc1
          refine lv_iconst (v := (-1 : Int32)) hx hb dX0_attacks_249 (by decide) ?_
          refine lv_goto (tgt := 254) hx hb dX0_attacks_250 (by decide) ?_
          exact w_X0_attacks_254 (x0 := x0) (x1 := x1) (x4 := x4) (x8 := x8) (t0 := (-1 : Int32)) X hret hf hM (lv_sub hl [1, 2, 4, 5] rfl)
      · replace hf := m_ifF hf cc1
        refine lv_iconst (v := (1 : Int32)) hx hb dX0_attacks_241 (by decide) ?_
        refine lv_goto (tgt := 254) hx hb dX0_attacks_242 (by decide) ?_
        exact w_X0_attacks_254 (x0 := x0) (x1 := x1) (x4 := x4) (x8 := x8) (t0 := (1 : Int32)) X hret hf hM (lv_sub hl [1, 2, 4, 5] rfl)
    · replace hf := m_ifT hf cc1
      exact w_X0_attacks_235 X hret hf hM (lv_sub hl [] rfl)
def f_X0_attacks_222 (x0 : Nat) (x1 : Int32) (x3 : Int32) (x4 : Int32) (x8 : Int32) (S : ZS) : Option (Int32 × ZS) :=
  f_X0_attacks_223 x0 x1 x3 x4 x8 (0 : Int32) S

set_option maxRecDepth 100000 in
set_option maxHeartbeats 4000000 in
theorem w_X0_attacks_222 {p : Program} {l : Launch} {e : Env} {s : State} {m : MethodId} {args : Array Value} {below : List Frame} {meth : Method} {c : Code} {Q : State → Prop} {D : va_G} {y : Nat → ClassId} {A0 : Nat → Prop} {o : Int32 × ZS} (X : CallFix p m c cX0_attacks 13 s args wsX0_attacks RX0) (hret : zRi p l e ({ frames := 0, cells := 0, slots := 0, locals := 0 } : Room) s m args below meth c Q cX0_attacks D y A0 .boolean o) {x0 : Nat} {x1 : Int32} {x3 : Int32} {x4 : Int32} {x8 : Int32} {S : ZS} {H : Heap} {locs : List Loc} {ls : Array Slot} (hf : f_X0_attacks_222 x0 x1 x3 x4 x8 S = some o) (hM : zH D y A0 s H locs S) (hl : lv_has ls 13 [(0, .ref (zh y x0)), (1, .int x1), (3, .int x3), (4, .int x4), (8, .int x8)]) : W p l e ({ frames := 0, cells := 0, slots := 0, locals := 0 } : Room) s m args below meth c H locs 0 0 Q (F0 m 222 ls []) := by
  obtain ⟨hx, hb, hml, hown, hts⟩ := id X
  unfold f_X0_attacks_222 at hf
  refine lv_iconst (v := (0 : Int32)) hx hb dX0_attacks_222 (by decide) ?_
  exact w_X0_attacks_223 (x0 := x0) (x1 := x1) (x3 := x3) (x4 := x4) (x8 := x8) (t0 := (0 : Int32)) X hret hf hM (lv_sub hl [0, 1, 2, 3, 4] rfl)
def f_X0_attacks_218 (x0 : Nat) (x1 : Int32) (x3 : Int32) (x4 : Int32) (x8 : Int32) (S : ZS) : Option (Int32 × ZS) :=
  f_X0_attacks_223 x0 x1 x3 x4 x8 (1 : Int32) S

set_option maxRecDepth 100000 in
set_option maxHeartbeats 4000000 in
theorem w_X0_attacks_218 {p : Program} {l : Launch} {e : Env} {s : State} {m : MethodId} {args : Array Value} {below : List Frame} {meth : Method} {c : Code} {Q : State → Prop} {D : va_G} {y : Nat → ClassId} {A0 : Nat → Prop} {o : Int32 × ZS} (X : CallFix p m c cX0_attacks 13 s args wsX0_attacks RX0) (hret : zRi p l e ({ frames := 0, cells := 0, slots := 0, locals := 0 } : Room) s m args below meth c Q cX0_attacks D y A0 .boolean o) {x0 : Nat} {x1 : Int32} {x3 : Int32} {x4 : Int32} {x8 : Int32} {S : ZS} {H : Heap} {locs : List Loc} {ls : Array Slot} (hf : f_X0_attacks_218 x0 x1 x3 x4 x8 S = some o) (hM : zH D y A0 s H locs S) (hl : lv_has ls 13 [(0, .ref (zh y x0)), (1, .int x1), (3, .int x3), (4, .int x4), (8, .int x8)]) : W p l e ({ frames := 0, cells := 0, slots := 0, locals := 0 } : Room) s m args below meth c H locs 0 0 Q (F0 m 218 ls []) := by
  obtain ⟨hx, hb, hml, hown, hts⟩ := id X
  unfold f_X0_attacks_218 at hf
  refine lv_iconst (v := (1 : Int32)) hx hb dX0_attacks_218 (by decide) ?_
  refine lv_goto (tgt := 223) hx hb dX0_attacks_219 (by decide) ?_
  exact w_X0_attacks_223 (x0 := x0) (x1 := x1) (x3 := x3) (x4 := x4) (x8 := x8) (t0 := (1 : Int32)) X hret hf hM (lv_sub hl [0, 1, 2, 3, 4] rfl)
def f_X0_attacks_191 (x0 : Nat) (x1 : Int32) (x3 : Int32) (x4 : Int32) (x8 : Int32) (S : ZS) : Option (Int32 × ZS) :=
  f_X0_attacks_223 x0 x1 x3 x4 x8 (1 : Int32) S

set_option maxRecDepth 100000 in
set_option maxHeartbeats 4000000 in
theorem w_X0_attacks_191 {p : Program} {l : Launch} {e : Env} {s : State} {m : MethodId} {args : Array Value} {below : List Frame} {meth : Method} {c : Code} {Q : State → Prop} {D : va_G} {y : Nat → ClassId} {A0 : Nat → Prop} {o : Int32 × ZS} (X : CallFix p m c cX0_attacks 13 s args wsX0_attacks RX0) (hret : zRi p l e ({ frames := 0, cells := 0, slots := 0, locals := 0 } : Room) s m args below meth c Q cX0_attacks D y A0 .boolean o) {x0 : Nat} {x1 : Int32} {x3 : Int32} {x4 : Int32} {x8 : Int32} {S : ZS} {H : Heap} {locs : List Loc} {ls : Array Slot} (hf : f_X0_attacks_191 x0 x1 x3 x4 x8 S = some o) (hM : zH D y A0 s H locs S) (hl : lv_has ls 13 [(0, .ref (zh y x0)), (1, .int x1), (3, .int x3), (4, .int x4), (8, .int x8)]) : W p l e ({ frames := 0, cells := 0, slots := 0, locals := 0 } : Room) s m args below meth c H locs 0 0 Q (F0 m 191 ls []) := by
  obtain ⟨hx, hb, hml, hown, hts⟩ := id X
  unfold f_X0_attacks_191 at hf
  refine lv_iconst (v := (1 : Int32)) hx hb dX0_attacks_191 (by decide) ?_
  refine lv_goto (tgt := 223) hx hb dX0_attacks_192 (by decide) ?_
  exact w_X0_attacks_223 (x0 := x0) (x1 := x1) (x3 := x3) (x4 := x4) (x8 := x8) (t0 := (1 : Int32)) X hret hf hM (lv_sub hl [0, 1, 2, 3, 4] rfl)
def f_X0_attacks_172 (x0 : Nat) (x1 : Int32) (x3 : Int32) (x4 : Int32) (x5 : Int32) (x6 : Int32) (x7 : Int32) (x8 : Int32) (t0 : Int32) (S : ZS) : Option (Int32 × ZS) :=
  m_if (t0 = 0) (
  m_if (x6 = x7) (
  m_if (x5 = (3 : Int32)) (
  f_X0_attacks_218 x0 x1 x3 x4 x8 S
  ) (
  m_if (x5 = (5 : Int32)) (
  f_X0_attacks_218 x0 x1 x3 x4 x8 S
  ) (
  f_X0_attacks_222 x0 x1 x3 x4 x8 S
  )
  )
  ) (
  f_X0_attacks_222 x0 x1 x3 x4 x8 S
  )
  ) (
  m_if (x5 = (4 : Int32)) (
  f_X0_attacks_191 x0 x1 x3 x4 x8 S
  ) (
  m_if (x5 = (5 : Int32)) (
  f_X0_attacks_191 x0 x1 x3 x4 x8 S
  ) (
  f_X0_attacks_223 x0 x1 x3 x4 x8 (0 : Int32) S
  )
  )
  )

set_option maxRecDepth 100000 in
set_option maxHeartbeats 4000000 in
theorem w_X0_attacks_172 {p : Program} {l : Launch} {e : Env} {s : State} {m : MethodId} {args : Array Value} {below : List Frame} {meth : Method} {c : Code} {Q : State → Prop} {D : va_G} {y : Nat → ClassId} {A0 : Nat → Prop} {o : Int32 × ZS} (X : CallFix p m c cX0_attacks 13 s args wsX0_attacks RX0) (hret : zRi p l e ({ frames := 0, cells := 0, slots := 0, locals := 0 } : Room) s m args below meth c Q cX0_attacks D y A0 .boolean o) {x0 : Nat} {x1 : Int32} {x3 : Int32} {x4 : Int32} {x5 : Int32} {x6 : Int32} {x7 : Int32} {x8 : Int32} {t0 : Int32} {S : ZS} {H : Heap} {locs : List Loc} {ls : Array Slot} (hf : f_X0_attacks_172 x0 x1 x3 x4 x5 x6 x7 x8 t0 S = some o) (hM : zH D y A0 s H locs S) (hl : lv_has ls 13 [(0, .ref (zh y x0)), (1, .int x1), (3, .int x3), (4, .int x4), (5, .int x5), (6, .int x6), (7, .int x7), (8, .int x8)]) : W p l e ({ frames := 0, cells := 0, slots := 0, locals := 0 } : Room) s m args below meth c H locs 0 0 Q (F0 m 172 ls [.int t0]) := by
  obtain ⟨hx, hb, hml, hown, hts⟩ := id X
  unfold f_X0_attacks_172 at hf
  refine lv_istore (lv' := [(9, .int t0), (0, .ref (zh y x0)), (1, .int x1), (3, .int x3), (4, .int x4), (5, .int x5), (6, .int x6), (7, .int x7), (8, .int x8)]) hx hb dX0_attacks_172 hl (by decide) rfl (fun ls hl => ?_)
  refine lv_iload hx hb dX0_attacks_174 (lv_at hl 0 rfl) ?_
  refine lv_if_eq (tgt := 199) hx hb dX0_attacks_176 (by decide) (fun cc1 => ?_) (fun cc1 => ?_)
  · replace hf := m_ifT hf cc1
    refine lv_iload hx hb dX0_attacks_199 (lv_at hl 6 rfl) ?_
    refine lv_iload hx hb dX0_attacks_201 (lv_at hl 7 rfl) ?_
    refine lv_icmp_ne (tgt := 222) hx hb dX0_attacks_203 (by decide) (fun cc1 => ?_) (fun cc1 => ?_)
    · replace hf := m_ifF hf cc1
      exact w_X0_attacks_222 (x0 := x0) (x1 := x1) (x3 := x3) (x4 := x4) (x8 := x8) X hret hf hM (lv_sub hl [1, 2, 3, 4, 8] rfl)
    · replace hf := m_ifT hf cc1
      refine lv_iload hx hb dX0_attacks_206 (lv_at hl 5 rfl) ?_
      refine lv_iconst (v := (3 : Int32)) hx hb dX0_attacks_208 (by decide) ?_
      refine lv_icmp_eq (tgt := 218) hx hb dX0_attacks_209 (by decide) (fun cc1 => ?_) (fun cc1 => ?_)
      · replace hf := m_ifT hf cc1
        exact w_X0_attacks_218 (x0 := x0) (x1 := x1) (x3 := x3) (x4 := x4) (x8 := x8) X hret hf hM (lv_sub hl [1, 2, 3, 4, 8] rfl)
      · replace hf := m_ifF hf cc1
        refine lv_iload hx hb dX0_attacks_212 (lv_at hl 5 rfl) ?_
        refine lv_iconst (v := (5 : Int32)) hx hb dX0_attacks_214 (by decide) ?_
        refine lv_icmp_ne (tgt := 222) hx hb dX0_attacks_215 (by decide) (fun cc1 => ?_) (fun cc1 => ?_)
        · replace hf := m_ifF hf cc1
          exact w_X0_attacks_222 (x0 := x0) (x1 := x1) (x3 := x3) (x4 := x4) (x8 := x8) X hret hf hM (lv_sub hl [1, 2, 3, 4, 8] rfl)
        · replace hf := m_ifT hf cc1
          exact w_X0_attacks_218 (x0 := x0) (x1 := x1) (x3 := x3) (x4 := x4) (x8 := x8) X hret hf hM (lv_sub hl [1, 2, 3, 4, 8] rfl)
  · replace hf := m_ifF hf cc1
    refine lv_iload hx hb dX0_attacks_179 (lv_at hl 5 rfl) ?_
    refine lv_iconst (v := (4 : Int32)) hx hb dX0_attacks_181 (by decide) ?_
    refine lv_icmp_eq (tgt := 191) hx hb dX0_attacks_182 (by decide) (fun cc1 => ?_) (fun cc1 => ?_)
    · replace hf := m_ifT hf cc1
      exact w_X0_attacks_191 (x0 := x0) (x1 := x1) (x3 := x3) (x4 := x4) (x8 := x8) X hret hf hM (lv_sub hl [1, 2, 3, 4, 8] rfl)
    · replace hf := m_ifF hf cc1
      refine lv_iload hx hb dX0_attacks_185 (lv_at hl 5 rfl) ?_
      refine lv_iconst (v := (5 : Int32)) hx hb dX0_attacks_187 (by decide) ?_
      refine lv_icmp_ne (tgt := 195) hx hb dX0_attacks_188 (by decide) (fun cc1 => ?_) (fun cc1 => ?_)
      · replace hf := m_ifF hf cc1
        refine lv_iconst (v := (0 : Int32)) hx hb dX0_attacks_195 (by decide) ?_
        refine lv_goto (tgt := 223) hx hb dX0_attacks_196 (by decide) ?_
        exact w_X0_attacks_223 (x0 := x0) (x1 := x1) (x3 := x3) (x4 := x4) (x8 := x8) (t0 := (0 : Int32)) X hret hf hM (lv_sub hl [1, 2, 3, 4, 8] rfl)
      · replace hf := m_ifT hf cc1
        exact w_X0_attacks_191 (x0 := x0) (x1 := x1) (x3 := x3) (x4 := x4) (x8 := x8) X hret hf hM (lv_sub hl [1, 2, 3, 4, 8] rfl)
def f_X0_attacks_167 (x0 : Nat) (x1 : Int32) (x3 : Int32) (x4 : Int32) (x5 : Int32) (x6 : Int32) (x7 : Int32) (x8 : Int32) (S : ZS) : Option (Int32 × ZS) :=
  f_X0_attacks_172 x0 x1 x3 x4 x5 x6 x7 x8 (1 : Int32) S

set_option maxRecDepth 100000 in
set_option maxHeartbeats 4000000 in
theorem w_X0_attacks_167 {p : Program} {l : Launch} {e : Env} {s : State} {m : MethodId} {args : Array Value} {below : List Frame} {meth : Method} {c : Code} {Q : State → Prop} {D : va_G} {y : Nat → ClassId} {A0 : Nat → Prop} {o : Int32 × ZS} (X : CallFix p m c cX0_attacks 13 s args wsX0_attacks RX0) (hret : zRi p l e ({ frames := 0, cells := 0, slots := 0, locals := 0 } : Room) s m args below meth c Q cX0_attacks D y A0 .boolean o) {x0 : Nat} {x1 : Int32} {x3 : Int32} {x4 : Int32} {x5 : Int32} {x6 : Int32} {x7 : Int32} {x8 : Int32} {S : ZS} {H : Heap} {locs : List Loc} {ls : Array Slot} (hf : f_X0_attacks_167 x0 x1 x3 x4 x5 x6 x7 x8 S = some o) (hM : zH D y A0 s H locs S) (hl : lv_has ls 13 [(0, .ref (zh y x0)), (1, .int x1), (3, .int x3), (4, .int x4), (5, .int x5), (6, .int x6), (7, .int x7), (8, .int x8)]) : W p l e ({ frames := 0, cells := 0, slots := 0, locals := 0 } : Room) s m args below meth c H locs 0 0 Q (F0 m 167 ls []) := by
  obtain ⟨hx, hb, hml, hown, hts⟩ := id X
  unfold f_X0_attacks_167 at hf
  refine lv_iconst (v := (1 : Int32)) hx hb dX0_attacks_167 (by decide) ?_
  refine lv_goto (tgt := 172) hx hb dX0_attacks_168 (by decide) ?_
  exact w_X0_attacks_172 (x0 := x0) (x1 := x1) (x3 := x3) (x4 := x4) (x5 := x5) (x6 := x6) (x7 := x7) (x8 := x8) (t0 := (1 : Int32)) X hret hf hM (lv_sub hl [0, 1, 2, 3, 4, 5, 6, 7] rfl)
def f_X0_attacks_156 (t0 : Int32) (S : ZS) : Option (Int32 × ZS) :=
  m_chk (vp_nar .boolean t0 = t0) (some (t0, S))

set_option maxRecDepth 100000 in
set_option maxHeartbeats 4000000 in
theorem w_X0_attacks_156 {p : Program} {l : Launch} {e : Env} {s : State} {m : MethodId} {args : Array Value} {below : List Frame} {meth : Method} {c : Code} {Q : State → Prop} {D : va_G} {y : Nat → ClassId} {A0 : Nat → Prop} {o : Int32 × ZS} (X : CallFix p m c cX0_attacks 13 s args wsX0_attacks RX0) (hret : zRi p l e ({ frames := 0, cells := 0, slots := 0, locals := 0 } : Room) s m args below meth c Q cX0_attacks D y A0 .boolean o) {t0 : Int32} {S : ZS} {H : Heap} {locs : List Loc} {ls : Array Slot} (hf : f_X0_attacks_156 t0 S = some o) (hM : zH D y A0 s H locs S) (hl : lv_has ls 13 []) : W p l e ({ frames := 0, cells := 0, slots := 0, locals := 0 } : Room) s m args below meth c H locs 0 0 Q (F0 m 156 ls [.int t0]) := by
  obtain ⟨hx, hb, hml, hown, hts⟩ := id X
  unfold f_X0_attacks_156 at hf
  obtain ⟨cd, hf⟩ := m_chkE hf
  cases hf
  exact hret H locs _ ls hM (m_nb cd) dX0_attacks_156
def f_X0_attacks_136 (x0 : Nat) (x1 : Int32) (x3 : Int32) (x4 : Int32) (x5 : Int32) (x6 : Int32) (x7 : Int32) (t0 : Int32) (S : ZS) : Option (Int32 × ZS) :=
  m_if (x5 = (6 : Int32)) (
  m_if (t0 = (1 : Int32)) (
  f_X0_attacks_156 (1 : Int32) S
  ) (
  f_X0_attacks_156 (0 : Int32) S
  )
  ) (
  m_if (x6 = 0) (
  f_X0_attacks_167 x0 x1 x3 x4 x5 x6 x7 t0 S
  ) (
  m_if (x7 = 0) (
  f_X0_attacks_167 x0 x1 x3 x4 x5 x6 x7 t0 S
  ) (
  f_X0_attacks_172 x0 x1 x3 x4 x5 x6 x7 t0 (0 : Int32) S
  )
  )
  )

set_option maxRecDepth 100000 in
set_option maxHeartbeats 4000000 in
theorem w_X0_attacks_136 {p : Program} {l : Launch} {e : Env} {s : State} {m : MethodId} {args : Array Value} {below : List Frame} {meth : Method} {c : Code} {Q : State → Prop} {D : va_G} {y : Nat → ClassId} {A0 : Nat → Prop} {o : Int32 × ZS} (X : CallFix p m c cX0_attacks 13 s args wsX0_attacks RX0) (hret : zRi p l e ({ frames := 0, cells := 0, slots := 0, locals := 0 } : Room) s m args below meth c Q cX0_attacks D y A0 .boolean o) {x0 : Nat} {x1 : Int32} {x3 : Int32} {x4 : Int32} {x5 : Int32} {x6 : Int32} {x7 : Int32} {t0 : Int32} {S : ZS} {H : Heap} {locs : List Loc} {ls : Array Slot} (hf : f_X0_attacks_136 x0 x1 x3 x4 x5 x6 x7 t0 S = some o) (hM : zH D y A0 s H locs S) (hl : lv_has ls 13 [(0, .ref (zh y x0)), (1, .int x1), (3, .int x3), (4, .int x4), (5, .int x5), (6, .int x6), (7, .int x7)]) : W p l e ({ frames := 0, cells := 0, slots := 0, locals := 0 } : Room) s m args below meth c H locs 0 0 Q (F0 m 136 ls [.int t0]) := by
  obtain ⟨hx, hb, hml, hown, hts⟩ := id X
  unfold f_X0_attacks_136 at hf
  refine lv_istore (lv' := [(8, .int t0), (0, .ref (zh y x0)), (1, .int x1), (3, .int x3), (4, .int x4), (5, .int x5), (6, .int x6), (7, .int x7)]) hx hb dX0_attacks_136 hl (by decide) rfl (fun ls hl => ?_)
  refine lv_iload hx hb dX0_attacks_138 (lv_at hl 5 rfl) ?_
  refine lv_bipush (v := (6 : Int32)) hx hb dX0_attacks_140 (by decide) ?_
  refine lv_icmp_ne (tgt := 157) hx hb dX0_attacks_142 (by decide) (fun cc1 => ?_) (fun cc1 => ?_)
  · replace hf := m_ifF hf cc1
    refine lv_iload hx hb dX0_attacks_157 (lv_at hl 6 rfl) ?_
    refine lv_if_eq (tgt := 167) hx hb dX0_attacks_159 (by decide) (fun cc1 => ?_) (fun cc1 => ?_)
    · replace hf := m_ifT hf cc1
      exact w_X0_attacks_167 (x0 := x0) (x1 := x1) (x3 := x3) (x4 := x4) (x5 := x5) (x6 := x6) (x7 := x7) (x8 := t0) X hret hf hM (lv_sub hl [1, 2, 3, 4, 5, 6, 7, 0] rfl)
    · replace hf := m_ifF hf cc1
      refine lv_iload hx hb dX0_attacks_162 (lv_at hl 7 rfl) ?_
      refine lv_if_ne (tgt := 171) hx hb dX0_attacks_164 (by decide) (fun cc1 => ?_) (fun cc1 => ?_)
      · replace hf := m_ifF hf cc1
        refine lv_iconst (v := (0 : Int32)) hx hb dX0_attacks_171 (by decide) ?_
        exact w_X0_attacks_172 (x0 := x0) (x1 := x1) (x3 := x3) (x4 := x4) (x5 := x5) (x6 := x6) (x7 := x7) (x8 := t0) (t0 := (0 : Int32)) X hret hf hM (lv_sub hl [1, 2, 3, 4, 5, 6, 7, 0] rfl)
      · replace hf := m_ifT hf cc1
        exact w_X0_attacks_167 (x0 := x0) (x1 := x1) (x3 := x3) (x4 := x4) (x5 := x5) (x6 := x6) (x7 := x7) (x8 := t0) X hret hf hM (lv_sub hl [1, 2, 3, 4, 5, 6, 7, 0] rfl)
  · replace hf := m_ifT hf cc1
    refine lv_iload hx hb dX0_attacks_145 (lv_at hl 0 rfl) ?_
    refine lv_iconst (v := (1 : Int32)) hx hb dX0_attacks_147 (by decide) ?_
    refine lv_icmp_ne (tgt := 155) hx hb dX0_attacks_148 (by decide) (fun cc1 => ?_) (fun cc1 => ?_)
    · replace hf := m_ifF hf cc1
      refine lv_iconst (v := (0 : Int32)) hx hb dX0_attacks_155 (by decide) ?_
      exact w_X0_attacks_156 (t0 := (0 : Int32)) X hret hf hM (lv_sub hl [] rfl)
    · replace hf := m_ifT hf cc1
      refine lv_iconst (v := (1 : Int32)) hx hb dX0_attacks_151 (by decide) ?_
      refine lv_goto (tgt := 156) hx hb dX0_attacks_152 (by decide) ?_
      exact w_X0_attacks_156 (t0 := (1 : Int32)) X hret hf hM (lv_sub hl [] rfl)
def f_X0_attacks_120 (x0 : Nat) (x1 : Int32) (x3 : Int32) (x4 : Int32) (x5 : Int32) (x6 : Int32) (t0 : Int32) (S : ZS) : Option (Int32 × ZS) :=
  m_if (x6 ≤ t0) (
  f_X0_attacks_136 x0 x1 x3 x4 x5 x6 t0 t0 S
  ) (
  f_X0_attacks_136 x0 x1 x3 x4 x5 x6 t0 x6 S
  )

set_option maxRecDepth 100000 in
set_option maxHeartbeats 4000000 in
theorem w_X0_attacks_120 {p : Program} {l : Launch} {e : Env} {s : State} {m : MethodId} {args : Array Value} {below : List Frame} {meth : Method} {c : Code} {Q : State → Prop} {D : va_G} {y : Nat → ClassId} {A0 : Nat → Prop} {o : Int32 × ZS} (X : CallFix p m c cX0_attacks 13 s args wsX0_attacks RX0) (hret : zRi p l e ({ frames := 0, cells := 0, slots := 0, locals := 0 } : Room) s m args below meth c Q cX0_attacks D y A0 .boolean o) {x0 : Nat} {x1 : Int32} {x3 : Int32} {x4 : Int32} {x5 : Int32} {x6 : Int32} {t0 : Int32} {S : ZS} {H : Heap} {locs : List Loc} {ls : Array Slot} (hf : f_X0_attacks_120 x0 x1 x3 x4 x5 x6 t0 S = some o) (hM : zH D y A0 s H locs S) (hl : lv_has ls 13 [(0, .ref (zh y x0)), (1, .int x1), (3, .int x3), (4, .int x4), (5, .int x5), (6, .int x6)]) : W p l e ({ frames := 0, cells := 0, slots := 0, locals := 0 } : Room) s m args below meth c H locs 0 0 Q (F0 m 120 ls [.int t0]) := by
  obtain ⟨hx, hb, hml, hown, hts⟩ := id X
  unfold f_X0_attacks_120 at hf
  refine lv_istore (lv' := [(7, .int t0), (0, .ref (zh y x0)), (1, .int x1), (3, .int x3), (4, .int x4), (5, .int x5), (6, .int x6)]) hx hb dX0_attacks_120 hl (by decide) rfl (fun ls hl => ?_)
  refine lv_iload hx hb dX0_attacks_122 (lv_at hl 6 rfl) ?_
  refine lv_iload hx hb dX0_attacks_124 (lv_at hl 0 rfl) ?_
  refine lv_icmp_le (tgt := 134) hx hb dX0_attacks_126 (by decide) (fun cc1 => ?_) (fun cc1 => ?_)
  · replace hf := m_ifT hf cc1
    refine lv_iload hx hb dX0_attacks_134 (lv_at hl 0 rfl) ?_
    exact w_X0_attacks_136 (x0 := x0) (x1 := x1) (x3 := x3) (x4 := x4) (x5 := x5) (x6 := x6) (x7 := t0) (t0 := t0) X hret hf hM (lv_sub hl [1, 2, 3, 4, 5, 6, 0] rfl)
  · replace hf := m_ifF hf cc1
    refine lv_iload hx hb dX0_attacks_129 (lv_at hl 6 rfl) ?_
    refine lv_goto (tgt := 136) hx hb dX0_attacks_131 (by decide) ?_
    exact w_X0_attacks_136 (x0 := x0) (x1 := x1) (x3 := x3) (x4 := x4) (x5 := x5) (x6 := x6) (x7 := t0) (t0 := x6) X hret hf hM (lv_sub hl [1, 2, 3, 4, 5, 6, 0] rfl)
def f_X0_attacks_105 (x0 : Nat) (x1 : Int32) (x3 : Int32) (x4 : Int32) (x5 : Int32) (t0 : Int32) (S : ZS) : Option (Int32 × ZS) :=
  m_if (0 ≤ x4) (
  f_X0_attacks_120 x0 x1 x3 x4 x5 t0 x4 S
  ) (
  m_bnd (-x4) (fun v1 =>
  f_X0_attacks_120 x0 x1 x3 x4 x5 t0 v1 S)
  )

set_option maxRecDepth 100000 in
set_option maxHeartbeats 4000000 in
theorem w_X0_attacks_105 {p : Program} {l : Launch} {e : Env} {s : State} {m : MethodId} {args : Array Value} {below : List Frame} {meth : Method} {c : Code} {Q : State → Prop} {D : va_G} {y : Nat → ClassId} {A0 : Nat → Prop} {o : Int32 × ZS} (X : CallFix p m c cX0_attacks 13 s args wsX0_attacks RX0) (hret : zRi p l e ({ frames := 0, cells := 0, slots := 0, locals := 0 } : Room) s m args below meth c Q cX0_attacks D y A0 .boolean o) {x0 : Nat} {x1 : Int32} {x3 : Int32} {x4 : Int32} {x5 : Int32} {t0 : Int32} {S : ZS} {H : Heap} {locs : List Loc} {ls : Array Slot} (hf : f_X0_attacks_105 x0 x1 x3 x4 x5 t0 S = some o) (hM : zH D y A0 s H locs S) (hl : lv_has ls 13 [(0, .ref (zh y x0)), (1, .int x1), (3, .int x3), (4, .int x4), (5, .int x5)]) : W p l e ({ frames := 0, cells := 0, slots := 0, locals := 0 } : Room) s m args below meth c H locs 0 0 Q (F0 m 105 ls [.int t0]) := by
  obtain ⟨hx, hb, hml, hown, hts⟩ := id X
  unfold f_X0_attacks_105 at hf
  refine lv_istore (lv' := [(6, .int t0), (0, .ref (zh y x0)), (1, .int x1), (3, .int x3), (4, .int x4), (5, .int x5)]) hx hb dX0_attacks_105 hl (by decide) rfl (fun ls hl => ?_)
  refine lv_iload hx hb dX0_attacks_107 (lv_at hl 4 rfl) ?_
  refine lv_if_ge (tgt := 118) hx hb dX0_attacks_109 (by decide) (fun cc1 => ?_) (fun cc1 => ?_)
  · replace hf := m_ifT hf cc1
    refine lv_iload hx hb dX0_attacks_118 (lv_at hl 4 rfl) ?_
    exact w_X0_attacks_120 (x0 := x0) (x1 := x1) (x3 := x3) (x4 := x4) (x5 := x5) (x6 := t0) (t0 := x4) X hret hf hM (lv_sub hl [1, 2, 3, 4, 5, 0] rfl)
  · replace hf := m_ifF hf cc1
    refine lv_iload hx hb dX0_attacks_112 (lv_at hl 4 rfl) ?_
    refine lv_ineg hx hb dX0_attacks_114 ?_
    obtain ⟨v1, ev, hf⟩ := m_bndE hf
    refine m_top ev ?_
    clear ev
    refine lv_goto (tgt := 120) hx hb dX0_attacks_115 (by decide) ?_
    exact w_X0_attacks_120 (x0 := x0) (x1 := x1) (x3 := x3) (x4 := x4) (x5 := x5) (x6 := t0) (t0 := v1) X hret hf hM (lv_sub hl [1, 2, 3, 4, 5, 0] rfl)
def f_X0_attacks_94 (t0 : Int32) (S : ZS) : Option (Int32 × ZS) :=
  m_chk (vp_nar .boolean t0 = t0) (some (t0, S))

set_option maxRecDepth 100000 in
set_option maxHeartbeats 4000000 in
theorem w_X0_attacks_94 {p : Program} {l : Launch} {e : Env} {s : State} {m : MethodId} {args : Array Value} {below : List Frame} {meth : Method} {c : Code} {Q : State → Prop} {D : va_G} {y : Nat → ClassId} {A0 : Nat → Prop} {o : Int32 × ZS} (X : CallFix p m c cX0_attacks 13 s args wsX0_attacks RX0) (hret : zRi p l e ({ frames := 0, cells := 0, slots := 0, locals := 0 } : Room) s m args below meth c Q cX0_attacks D y A0 .boolean o) {t0 : Int32} {S : ZS} {H : Heap} {locs : List Loc} {ls : Array Slot} (hf : f_X0_attacks_94 t0 S = some o) (hM : zH D y A0 s H locs S) (hl : lv_has ls 13 []) : W p l e ({ frames := 0, cells := 0, slots := 0, locals := 0 } : Room) s m args below meth c H locs 0 0 Q (F0 m 94 ls [.int t0]) := by
  obtain ⟨hx, hb, hml, hown, hts⟩ := id X
  unfold f_X0_attacks_94 at hf
  obtain ⟨cd, hf⟩ := m_chkE hf
  cases hf
  exact hret H locs _ ls hM (m_nb cd) dX0_attacks_94
def f_X0_attacks_69 (t0 : Int32) (S : ZS) : Option (Int32 × ZS) :=
  m_chk (vp_nar .boolean t0 = t0) (some (t0, S))

set_option maxRecDepth 100000 in
set_option maxHeartbeats 4000000 in
theorem w_X0_attacks_69 {p : Program} {l : Launch} {e : Env} {s : State} {m : MethodId} {args : Array Value} {below : List Frame} {meth : Method} {c : Code} {Q : State → Prop} {D : va_G} {y : Nat → ClassId} {A0 : Nat → Prop} {o : Int32 × ZS} (X : CallFix p m c cX0_attacks 13 s args wsX0_attacks RX0) (hret : zRi p l e ({ frames := 0, cells := 0, slots := 0, locals := 0 } : Room) s m args below meth c Q cX0_attacks D y A0 .boolean o) {t0 : Int32} {S : ZS} {H : Heap} {locs : List Loc} {ls : Array Slot} (hf : f_X0_attacks_69 t0 S = some o) (hM : zH D y A0 s H locs S) (hl : lv_has ls 13 []) : W p l e ({ frames := 0, cells := 0, slots := 0, locals := 0 } : Room) s m args below meth c H locs 0 0 Q (F0 m 69 ls [.int t0]) := by
  obtain ⟨hx, hb, hml, hown, hts⟩ := id X
  unfold f_X0_attacks_69 at hf
  obtain ⟨cd, hf⟩ := m_chkE hf
  cases hf
  exact hret H locs _ ls hM (m_nb cd) dX0_attacks_69
def f_X0_attacks_68 (S : ZS) : Option (Int32 × ZS) :=
  f_X0_attacks_69 (0 : Int32) S

set_option maxRecDepth 100000 in
set_option maxHeartbeats 4000000 in
theorem w_X0_attacks_68 {p : Program} {l : Launch} {e : Env} {s : State} {m : MethodId} {args : Array Value} {below : List Frame} {meth : Method} {c : Code} {Q : State → Prop} {D : va_G} {y : Nat → ClassId} {A0 : Nat → Prop} {o : Int32 × ZS} (X : CallFix p m c cX0_attacks 13 s args wsX0_attacks RX0) (hret : zRi p l e ({ frames := 0, cells := 0, slots := 0, locals := 0 } : Room) s m args below meth c Q cX0_attacks D y A0 .boolean o) {S : ZS} {H : Heap} {locs : List Loc} {ls : Array Slot} (hf : f_X0_attacks_68  S = some o) (hM : zH D y A0 s H locs S) (hl : lv_has ls 13 []) : W p l e ({ frames := 0, cells := 0, slots := 0, locals := 0 } : Room) s m args below meth c H locs 0 0 Q (F0 m 68 ls []) := by
  obtain ⟨hx, hb, hml, hown, hts⟩ := id X
  unfold f_X0_attacks_68 at hf
  refine lv_iconst (v := (0 : Int32)) hx hb dX0_attacks_68 (by decide) ?_
  exact w_X0_attacks_69 (t0 := (0 : Int32)) X hret hf hM (lv_sub hl [] rfl)
def f_X0_attacks_54 (x3 : Int32) (t0 : Int32) (t1 : Int32) (S : ZS) : Option (Int32 × ZS) :=
  m_if (t1 = t0) (
  m_bnd (x3 * x3) (fun v1 =>
  m_if (v1 = (1 : Int32)) (
  f_X0_attacks_69 (1 : Int32) S
  ) (
  f_X0_attacks_68  S
  ))
  ) (
  f_X0_attacks_68  S
  )

set_option maxRecDepth 100000 in
set_option maxHeartbeats 4000000 in
theorem w_X0_attacks_54 {p : Program} {l : Launch} {e : Env} {s : State} {m : MethodId} {args : Array Value} {below : List Frame} {meth : Method} {c : Code} {Q : State → Prop} {D : va_G} {y : Nat → ClassId} {A0 : Nat → Prop} {o : Int32 × ZS} (X : CallFix p m c cX0_attacks 13 s args wsX0_attacks RX0) (hret : zRi p l e ({ frames := 0, cells := 0, slots := 0, locals := 0 } : Room) s m args below meth c Q cX0_attacks D y A0 .boolean o) {x3 : Int32} {t0 : Int32} {t1 : Int32} {S : ZS} {H : Heap} {locs : List Loc} {ls : Array Slot} (hf : f_X0_attacks_54 x3 t0 t1 S = some o) (hM : zH D y A0 s H locs S) (hl : lv_has ls 13 [(3, .int x3)]) : W p l e ({ frames := 0, cells := 0, slots := 0, locals := 0 } : Room) s m args below meth c H locs 0 0 Q (F0 m 54 ls [.int t0, .int t1]) := by
  obtain ⟨hx, hb, hml, hown, hts⟩ := id X
  unfold f_X0_attacks_54 at hf
  refine lv_icmp_ne (tgt := 68) hx hb dX0_attacks_54 (by decide) (fun cc1 => ?_) (fun cc1 => ?_)
  · replace hf := m_ifF hf cc1
    exact w_X0_attacks_68 X hret hf hM (lv_sub hl [] rfl)
  · replace hf := m_ifT hf cc1
    refine lv_iload_n hx hb dX0_attacks_57 rfl (lv_at hl 0 rfl) ?_
    refine lv_iload_n hx hb dX0_attacks_58 rfl (lv_at hl 0 rfl) ?_
    refine lv_imul hx hb dX0_attacks_59 ?_
    obtain ⟨v1, ev, hf⟩ := m_bndE hf
    refine m_top ev ?_
    clear ev
    refine lv_iconst (v := (1 : Int32)) hx hb dX0_attacks_60 (by decide) ?_
    refine lv_icmp_ne (tgt := 68) hx hb dX0_attacks_61 (by decide) (fun cc1 => ?_) (fun cc1 => ?_)
    · replace hf := m_ifF hf cc1
      exact w_X0_attacks_68 X hret hf hM (lv_sub hl [] rfl)
    · replace hf := m_ifT hf cc1
      refine lv_iconst (v := (1 : Int32)) hx hb dX0_attacks_64 (by decide) ?_
      refine lv_goto (tgt := 69) hx hb dX0_attacks_65 (by decide) ?_
      exact w_X0_attacks_69 (t0 := (1 : Int32)) X hret hf hM (lv_sub hl [] rfl)
def f_X0_attacks_0 (x0 : Nat) (x1 : Int32) (x2 : Int32) (S : ZS) : Option (Int32 × ZS) :=
  m_bnd (x2 &&& (7 : Int32)) (fun v1 =>
  m_bnd (x1 &&& (7 : Int32)) (fun v2 =>
  m_bnd (v1 - v2) (fun v3 =>
  m_bnd (x2 >>> ((3 : Int32) &&& 31)) (fun v4 =>
  m_bnd (x1 >>> ((3 : Int32) &&& 31)) (fun v5 =>
  m_bnd (v4 - v5) (fun v6 =>
  m_chk (zK S x0 = 0) (
  m_cal (zP S 0 x0) (fun b7 =>
  m_chk (zK S b7 = 14) (
  m_chk (¬ (x1 < 0 ∨ zN S b7 ≤ (x1).toNatClampNeg)) (
  m_bnd (zA S b7 (x1).toNatClampNeg) (fun v8 =>
  m_bnd (v8 &&& (7 : Int32)) (fun v9 =>
  m_if (v9 = (1 : Int32)) (
  m_chk (zK S x0 = 0) (
  m_cal (zP S 0 x0) (fun b14 =>
  m_chk (zK S b14 = 14) (
  m_chk (¬ (x1 < 0 ∨ zN S b14 ≤ (x1).toNatClampNeg)) (
  m_bnd (zA S b14 (x1).toNatClampNeg) (fun v15 =>
  m_if ((8 : Int32) ≤ v15) (
  f_X0_attacks_54 v3 (-1 : Int32) v6 S
  ) (
  f_X0_attacks_54 v3 (1 : Int32) v6 S
  ))))))
  ) (
  m_if (v9 = (2 : Int32)) (
  m_bnd (v3 * v3) (fun v11 =>
  m_bnd (v6 * v6) (fun v12 =>
  m_bnd (v11 + v12) (fun v13 =>
  m_if (v13 = (5 : Int32)) (
  f_X0_attacks_94 (1 : Int32) S
  ) (
  f_X0_attacks_94 (0 : Int32) S
  ))))
  ) (
  m_if (0 ≤ v3) (
  f_X0_attacks_105 x0 x1 v3 v6 v9 v3 S
  ) (
  m_bnd (-v3) (fun v10 =>
  f_X0_attacks_105 x0 x1 v3 v6 v9 v10 S)
  )
  )
  )))))))))))))

set_option maxRecDepth 100000 in
set_option maxHeartbeats 4000000 in
theorem w_X0_attacks_0 {p : Program} {l : Launch} {e : Env} {s : State} {m : MethodId} {args : Array Value} {below : List Frame} {meth : Method} {c : Code} {Q : State → Prop} {D : va_G} {y : Nat → ClassId} {A0 : Nat → Prop} {o : Int32 × ZS} (X : CallFix p m c cX0_attacks 13 s args wsX0_attacks RX0) (hret : zRi p l e ({ frames := 0, cells := 0, slots := 0, locals := 0 } : Room) s m args below meth c Q cX0_attacks D y A0 .boolean o) {x0 : Nat} {x1 : Int32} {x2 : Int32} {S : ZS} {H : Heap} {locs : List Loc} {ls : Array Slot} (hf : f_X0_attacks_0 x0 x1 x2 S = some o) (hM : zH D y A0 s H locs S) (hl : lv_has ls 13 [(0, .ref (zh y x0)), (1, .int x1), (2, .int x2)]) : W p l e ({ frames := 0, cells := 0, slots := 0, locals := 0 } : Room) s m args below meth c H locs 0 0 Q (F0 m 0 ls []) := by
  obtain ⟨hx, hb, hml, hown, hts⟩ := id X
  unfold f_X0_attacks_0 at hf
  refine lv_iload_n hx hb dX0_attacks_0 rfl (lv_at hl 2 rfl) ?_
  refine lv_bipush (v := (7 : Int32)) hx hb dX0_attacks_1 (by decide) ?_
  refine lv_iand hx hb dX0_attacks_3 ?_
  obtain ⟨v1, ev, hf⟩ := m_bndE hf
  refine m_top ev ?_
  clear ev
  refine lv_iload_n hx hb dX0_attacks_4 rfl (lv_at hl 1 rfl) ?_
  refine lv_bipush (v := (7 : Int32)) hx hb dX0_attacks_5 (by decide) ?_
  refine lv_iand hx hb dX0_attacks_7 ?_
  obtain ⟨v2, ev, hf⟩ := m_bndE hf
  refine m_top ev ?_
  clear ev
  refine lv_isub hx hb dX0_attacks_8 ?_
  obtain ⟨v3, ev, hf⟩ := m_bndE hf
  refine m_top ev ?_
  clear ev
  refine lv_istore_n (lv' := [(3, .int v3), (0, .ref (zh y x0)), (1, .int x1), (2, .int x2)]) hx hb dX0_attacks_9 rfl hl (by decide) rfl (fun ls hl => ?_)
  refine lv_iload_n hx hb dX0_attacks_10 rfl (lv_at hl 3 rfl) ?_
  refine lv_iconst (v := (3 : Int32)) hx hb dX0_attacks_11 (by decide) ?_
  refine lv_ishr hx hb dX0_attacks_12 ?_
  obtain ⟨v4, ev, hf⟩ := m_bndE hf
  refine m_top ev ?_
  clear ev
  refine lv_iload_n hx hb dX0_attacks_13 rfl (lv_at hl 2 rfl) ?_
  refine lv_iconst (v := (3 : Int32)) hx hb dX0_attacks_14 (by decide) ?_
  refine lv_ishr hx hb dX0_attacks_15 ?_
  obtain ⟨v5, ev, hf⟩ := m_bndE hf
  refine m_top ev ?_
  clear ev
  refine lv_isub hx hb dX0_attacks_16 ?_
  obtain ⟨v6, ev, hf⟩ := m_bndE hf
  refine m_top ev ?_
  clear ev
  refine lv_istore (lv' := [(4, .int v6), (3, .int v3), (0, .ref (zh y x0)), (1, .int x1), (2, .int x2)]) hx hb dX0_attacks_17 hl (by decide) rfl (fun ls hl => ?_)
  refine lv_aload_n hx hb dX0_attacks_19 rfl (lv_at hl 2 rfl) ?_
  obtain ⟨ca, hf⟩ := m_chkE hf
  replace ca := z_in hM (by decide) ca
  refine z_get (k := 0) (j := 0) (C := RX0) (T := TX0) (N := 7) (fl := zf_0) (v := va_rf ((zP S 0 x0).map (zh y))) X hw_X0_attacks_0 hM rfl zc_0 ca (by decide) fl_X0_attacks_0_0 rfl dX0_attacks_20 ?_
  clear ca
  obtain ⟨b7, hb9, hf⟩ := m_calE hf
  refine z_topr hb9 ?_
  clear hb9
  refine lv_iload_n hx hb dX0_attacks_23 rfl (lv_at hl 3 rfl) ?_
  obtain ⟨ca, hf⟩ := m_chkE hf
  replace ca := z_in hM (by decide) ca
  obtain ⟨cd, hf⟩ := m_chkE hf
  refine z_iald X hM ca cd dX0_attacks_24 ?_
  clear ca cd
  obtain ⟨v8, ev, hf⟩ := m_bndE hf
  refine m_top ev ?_
  clear ev
  refine lv_bipush (v := (7 : Int32)) hx hb dX0_attacks_25 (by decide) ?_
  refine lv_iand hx hb dX0_attacks_27 ?_
  obtain ⟨v9, ev, hf⟩ := m_bndE hf
  refine m_top ev ?_
  clear ev
  refine lv_istore (lv' := [(5, .int v9), (4, .int v6), (3, .int v3), (0, .ref (zh y x0)), (1, .int x1), (2, .int x2)]) hx hb dX0_attacks_28 hl (by decide) rfl (fun ls hl => ?_)
  refine lv_iload hx hb dX0_attacks_30 (lv_at hl 0 rfl) ?_
  refine lv_iconst (v := (1 : Int32)) hx hb dX0_attacks_32 (by decide) ?_
  refine lv_icmp_ne (tgt := 70) hx hb dX0_attacks_33 (by decide) (fun cc1 => ?_) (fun cc1 => ?_)
  · replace hf := m_ifF hf cc1
    refine lv_iload hx hb dX0_attacks_70 (lv_at hl 0 rfl) ?_
    refine lv_iconst (v := (2 : Int32)) hx hb dX0_attacks_72 (by decide) ?_
    refine lv_icmp_ne (tgt := 95) hx hb dX0_attacks_73 (by decide) (fun cc1 => ?_) (fun cc1 => ?_)
    · replace hf := m_ifF hf cc1
      refine lv_iload_n hx hb dX0_attacks_95 rfl (lv_at hl 2 rfl) ?_
      refine lv_if_ge (tgt := 104) hx hb dX0_attacks_96 (by decide) (fun cc1 => ?_) (fun cc1 => ?_)
      · replace hf := m_ifT hf cc1
        refine lv_iload_n hx hb dX0_attacks_104 rfl (lv_at hl 2 rfl) ?_
        exact w_X0_attacks_105 (x0 := x0) (x1 := x1) (x3 := v3) (x4 := v6) (x5 := v9) (t0 := v3) X hret hf hM (lv_sub hl [3, 4, 2, 1, 0] rfl)
      · replace hf := m_ifF hf cc1
        refine lv_iload_n hx hb dX0_attacks_99 rfl (lv_at hl 2 rfl) ?_
        refine lv_ineg hx hb dX0_attacks_100 ?_
        obtain ⟨v10, ev, hf⟩ := m_bndE hf
        refine m_top ev ?_
        clear ev
        refine lv_goto (tgt := 105) hx hb dX0_attacks_101 (by decide) ?_
        exact w_X0_attacks_105 (x0 := x0) (x1 := x1) (x3 := v3) (x4 := v6) (x5 := v9) (t0 := v10) X hret hf hM (lv_sub hl [3, 4, 2, 1, 0] rfl)
    · replace hf := m_ifT hf cc1
      refine lv_iload_n hx hb dX0_attacks_76 rfl (lv_at hl 2 rfl) ?_
      refine lv_iload_n hx hb dX0_attacks_77 rfl (lv_at hl 2 rfl) ?_
      refine lv_imul hx hb dX0_attacks_78 ?_
      obtain ⟨v11, ev, hf⟩ := m_bndE hf
      refine m_top ev ?_
      clear ev
      refine lv_iload hx hb dX0_attacks_79 (lv_at hl 1 rfl) ?_
      refine lv_iload hx hb dX0_attacks_81 (lv_at hl 1 rfl) ?_
      refine lv_imul hx hb dX0_attacks_83 ?_
      obtain ⟨v12, ev, hf⟩ := m_bndE hf
      refine m_top ev ?_
      clear ev
      refine lv_iadd hx hb dX0_attacks_84 ?_
      obtain ⟨v13, ev, hf⟩ := m_bndE hf
      refine m_top ev ?_
      clear ev
      refine lv_iconst (v := (5 : Int32)) hx hb dX0_attacks_85 (by decide) ?_
      refine lv_icmp_ne (tgt := 93) hx hb dX0_attacks_86 (by decide) (fun cc1 => ?_) (fun cc1 => ?_)
      · replace hf := m_ifF hf cc1
        refine lv_iconst (v := (0 : Int32)) hx hb dX0_attacks_93 (by decide) ?_
        exact w_X0_attacks_94 (t0 := (0 : Int32)) X hret hf hM (lv_sub hl [] rfl)
      · replace hf := m_ifT hf cc1
        refine lv_iconst (v := (1 : Int32)) hx hb dX0_attacks_89 (by decide) ?_
        refine lv_goto (tgt := 94) hx hb dX0_attacks_90 (by decide) ?_
        exact w_X0_attacks_94 (t0 := (1 : Int32)) X hret hf hM (lv_sub hl [] rfl)
  · replace hf := m_ifT hf cc1
    refine lv_iload hx hb dX0_attacks_36 (lv_at hl 1 rfl) ?_
    refine lv_aload_n hx hb dX0_attacks_38 rfl (lv_at hl 3 rfl) ?_
    obtain ⟨ca, hf⟩ := m_chkE hf
    replace ca := z_in hM (by decide) ca
    refine z_get (k := 0) (j := 0) (C := RX0) (T := TX0) (N := 7) (fl := zf_0) (v := va_rf ((zP S 0 x0).map (zh y))) X hw_X0_attacks_0 hM rfl zc_0 ca (by decide) fl_X0_attacks_0_0 rfl dX0_attacks_39 ?_
    clear ca
    obtain ⟨b14, hb9, hf⟩ := m_calE hf
    refine z_topr hb9 ?_
    clear hb9
    refine lv_iload_n hx hb dX0_attacks_42 rfl (lv_at hl 4 rfl) ?_
    obtain ⟨ca, hf⟩ := m_chkE hf
    replace ca := z_in hM (by decide) ca
    obtain ⟨cd, hf⟩ := m_chkE hf
    refine z_iald X hM ca cd dX0_attacks_43 ?_
    clear ca cd
    obtain ⟨v15, ev, hf⟩ := m_bndE hf
    refine m_top ev ?_
    clear ev
    refine lv_bipush (v := (8 : Int32)) hx hb dX0_attacks_44 (by decide) ?_
    refine lv_icmp_ge (tgt := 53) hx hb dX0_attacks_46 (by decide) (fun cc1 => ?_) (fun cc1 => ?_)
    · replace hf := m_ifT hf cc1
      refine lv_iconst (v := (-1 : Int32)) hx hb dX0_attacks_53 (by decide) ?_
      exact w_X0_attacks_54 (x3 := v3) (t0 := (-1 : Int32)) (t1 := v6) X hret hf hM (lv_sub hl [2] rfl)
    · replace hf := m_ifF hf cc1
      refine lv_iconst (v := (1 : Int32)) hx hb dX0_attacks_49 (by decide) ?_
      refine lv_goto (tgt := 54) hx hb dX0_attacks_50 (by decide) ?_
      exact w_X0_attacks_54 (x3 := v3) (t0 := (1 : Int32)) (t1 := v6) X hret hf hM (lv_sub hl [2] rfl)
def f_X0_attacks (x0 : Nat) (x1 : Int32) (x2 : Int32) (S : ZS) : Option (Int32 × ZS) := f_X0_attacks_0 x0 x1 x2 S
theorem c_X0_attacks {l : Launch} {D : va_G} {y : Nat → ClassId} {x0 : Nat} {x1 : Int32} {x2 : Int32} {S : ZS} {o : Int32 × ZS} (hf : f_X0_attacks x0 x1 x2 S = some o) : zMi l yX0_attacks wsX0_attacks ({ frames := 0, cells := 0, slots := 0, locals := 0 } : Room) [.ref (zh y x0), .int x1, .int x2] D y S o :=
  z_entryI (own := RX0) (cc := cX0_attacks) (maxL := 13) (by decide) rfl rfl (Nat.le_of_ble_eq_true rfl) (fun p e s m args below meth c A0 Q H locs ls X hret hM hl => w_X0_attacks_0 X hret hf hM (lv_sub hl [0, 1, 2] rfl))
theorem hd_X0_attacked : yX0_attacked.cls = RX0 ∧ yX0_attacked.cls ≠ "java/lang/invoke/MethodHandle" ∧ yX0_attacked.cls ≠ "java/lang/invoke/VarHandle" ∧ (parseMethodDescriptor yX0_attacked.desc).map (fun d => d.parameters.length) = some 2 := by decide +kernel
theorem fl_X0_attacked_0_0 : Cond.fieldLink RX0 9 "MoveTexts$Board" "men" "[I" ∈ wsX0_attacked := by decide +kernel
theorem hw_X0_attacked_0 : ∀ w ∈ wsX00, w ∈ wsX0_attacked := by decide +kernel
def f_X0_attacked_40 (self2 : Nat → Int32 → Int32 → Int32 → ZS → Option (Int32 × ZS)) (x0 : Nat) (x1 : Int32) (x2 : Int32) (x3 : Int32) (S : ZS) : Option (Int32 × ZS) :=
  m_bnd (x3 + (1 : Int32)) (fun v1 =>
  self2 x0 x1 x2 v1 S)

set_option maxRecDepth 100000 in
set_option maxHeartbeats 4000000 in
theorem w_X0_attacked_40 {p : Program} {l : Launch} {e : Env} {s : State} {m : MethodId} {args : Array Value} {below : List Frame} {meth : Method} {c : Code} {Q : State → Prop} {D : va_G} {y : Nat → ClassId} {A0 : Nat → Prop} {o : Int32 × ZS} (X : CallFix p m c cX0_attacked 4 s args wsX0_attacked RX0) (hret : zRi p l e ({ frames := 1, cells := 0, slots := 0, locals := 32 } : Room) s m args below meth c Q cX0_attacked D y A0 .boolean o) {self2 : Nat → Int32 → Int32 → Int32 → ZS → Option (Int32 × ZS)} (hself2 : ∀ (x0 : Nat) (x1 : Int32) (x2 : Int32) (x3 : Int32) (S : ZS) (H : Heap) (locs : List Loc) (ls : Array Slot), self2 x0 x1 x2 x3 S = some o → zH D y A0 s H locs S → lv_has ls 4 [(0, .ref (zh y x0)), (1, .int x1), (2, .int x2), (3, .int x3)] → W p l e ({ frames := 1, cells := 0, slots := 0, locals := 32 } : Room) s m args below meth c H locs 0 0 Q (F0 m 2 ls [])) {x0 : Nat} {x1 : Int32} {x2 : Int32} {x3 : Int32} {S : ZS} {H : Heap} {locs : List Loc} {ls : Array Slot} (hf : f_X0_attacked_40 self2 x0 x1 x2 x3 S = some o) (hM : zH D y A0 s H locs S) (hl : lv_has ls 4 [(0, .ref (zh y x0)), (1, .int x1), (2, .int x2), (3, .int x3)]) : W p l e ({ frames := 1, cells := 0, slots := 0, locals := 32 } : Room) s m args below meth c H locs 0 0 Q (F0 m 40 ls []) := by
  obtain ⟨hx, hb, hml, hown, hts⟩ := id X
  unfold f_X0_attacked_40 at hf
  obtain ⟨v1, ev, hf⟩ := m_bndE hf
  refine lv_iinc (v := v1) (lv' := [(3, .int v1), (0, .ref (zh y x0)), (1, .int x1), (2, .int x2)]) hx hb dX0_attacked_40 hl (k := 3) rfl (by rw [ev]; rfl) (by decide) rfl (fun ls hl => ?_)
  clear ev
  refine lv_goto (tgt := 2) hx hb dX0_attacked_43 (by decide) ?_
  exact hself2 x0 x1 x2 v1 _ _ _ _ hf hM (lv_sub hl [1, 2, 3, 0] rfl)
def f_X0_attacked_2s (self2 : Nat → Int32 → Int32 → Int32 → ZS → Option (Int32 × ZS)) (x0 : Nat) (x1 : Int32) (x2 : Int32) (x3 : Int32) (S : ZS) : Option (Int32 × ZS) :=
  m_if ((64 : Int32) ≤ x3) (
  m_chk (vp_nar .boolean (0 : Int32) = (0 : Int32)) (some ((0 : Int32), S))
  ) (
  m_chk (zK S x0 = 0) (
  m_cal (zP S 0 x0) (fun b1 =>
  m_chk (zK S b1 = 14) (
  m_chk (¬ (x3 < 0 ∨ zN S b1 ≤ (x3).toNatClampNeg)) (
  m_bnd (zA S b1 (x3).toNatClampNeg) (fun v2 =>
  m_if (v2 = 0) (
  f_X0_attacked_40 self2 x0 x1 x2 x3 S
  ) (
  m_chk (zK S x0 = 0) (
  m_cal (zP S 0 x0) (fun b3 =>
  m_chk (zK S b3 = 14) (
  m_chk (¬ (x3 < 0 ∨ zN S b3 ≤ (x3).toNatClampNeg)) (
  m_bnd (zA S b3 (x3).toNatClampNeg) (fun v4 =>
  m_bnd (v4 >>> ((3 : Int32) &&& 31)) (fun v5 =>
  m_if (v5 = x2) (
  m_chk (zK S x0 = 0) (
  m_cal (f_X0_attacks x0 x3 x1 S) (fun o6 =>
  m_if (o6.1 = 0) (
  f_X0_attacked_40 self2 x0 x1 x2 x3 o6.2
  ) (
  m_chk (vp_nar .boolean (1 : Int32) = (1 : Int32)) (some ((1 : Int32), o6.2))
  )))
  ) (
  f_X0_attacked_40 self2 x0 x1 x2 x3 S
  )))))))
  ))))))
  )

set_option maxRecDepth 100000 in
set_option maxHeartbeats 4000000 in
theorem ws_X0_attacked_2 {p : Program} {l : Launch} {e : Env} {s : State} {m : MethodId} {args : Array Value} {below : List Frame} {meth : Method} {c : Code} {Q : State → Prop} {D : va_G} {y : Nat → ClassId} {A0 : Nat → Prop} {o : Int32 × ZS} (X : CallFix p m c cX0_attacked 4 s args wsX0_attacked RX0) (hret : zRi p l e ({ frames := 1, cells := 0, slots := 0, locals := 32 } : Room) s m args below meth c Q cX0_attacked D y A0 .boolean o) {self2 : Nat → Int32 → Int32 → Int32 → ZS → Option (Int32 × ZS)} (hself2 : ∀ (x0 : Nat) (x1 : Int32) (x2 : Int32) (x3 : Int32) (S : ZS) (H : Heap) (locs : List Loc) (ls : Array Slot), self2 x0 x1 x2 x3 S = some o → zH D y A0 s H locs S → lv_has ls 4 [(0, .ref (zh y x0)), (1, .int x1), (2, .int x2), (3, .int x3)] → W p l e ({ frames := 1, cells := 0, slots := 0, locals := 32 } : Room) s m args below meth c H locs 0 0 Q (F0 m 2 ls [])) {x0 : Nat} {x1 : Int32} {x2 : Int32} {x3 : Int32} {S : ZS} {H : Heap} {locs : List Loc} {ls : Array Slot} (hf : f_X0_attacked_2s self2 x0 x1 x2 x3 S = some o) (hM : zH D y A0 s H locs S) (hl : lv_has ls 4 [(0, .ref (zh y x0)), (1, .int x1), (2, .int x2), (3, .int x3)]) : W p l e ({ frames := 1, cells := 0, slots := 0, locals := 32 } : Room) s m args below meth c H locs 0 0 Q (F0 m 2 ls []) := by
  obtain ⟨hx, hb, hml, hown, hts⟩ := id X
  unfold f_X0_attacked_2s at hf
  refine lv_iload_n hx hb dX0_attacked_2 rfl (lv_at hl 3 rfl) ?_
  refine lv_bipush (v := (64 : Int32)) hx hb dX0_attacked_3 (by decide) ?_
  refine lv_icmp_ge (tgt := 46) hx hb dX0_attacked_5 (by decide) (fun cc1 => ?_) (fun cc1 => ?_)
  · replace hf := m_ifT hf cc1
    refine lv_iconst (v := (0 : Int32)) hx hb dX0_attacked_46 (by decide) ?_
    obtain ⟨cd, hf⟩ := m_chkE hf
    cases hf
    exact hret H locs _ ls hM (m_nb cd) dX0_attacked_47
  · replace hf := m_ifF hf cc1
    refine lv_aload_n hx hb dX0_attacked_8 rfl (lv_at hl 0 rfl) ?_
    obtain ⟨ca, hf⟩ := m_chkE hf
    replace ca := z_in hM (by decide) ca
    refine z_get (k := 0) (j := 0) (C := RX0) (T := TX0) (N := 7) (fl := zf_0) (v := va_rf ((zP S 0 x0).map (zh y))) X hw_X0_attacked_0 hM rfl zc_0 ca (by decide) fl_X0_attacked_0_0 rfl dX0_attacked_9 ?_
    clear ca
    obtain ⟨b1, hb9, hf⟩ := m_calE hf
    refine z_topr hb9 ?_
    clear hb9
    refine lv_iload_n hx hb dX0_attacked_12 rfl (lv_at hl 3 rfl) ?_
    obtain ⟨ca, hf⟩ := m_chkE hf
    replace ca := z_in hM (by decide) ca
    obtain ⟨cd, hf⟩ := m_chkE hf
    refine z_iald X hM ca cd dX0_attacked_13 ?_
    clear ca cd
    obtain ⟨v2, ev, hf⟩ := m_bndE hf
    refine m_top ev ?_
    clear ev
    refine lv_if_eq (tgt := 40) hx hb dX0_attacked_14 (by decide) (fun cc1 => ?_) (fun cc1 => ?_)
    · replace hf := m_ifT hf cc1
      exact w_X0_attacked_40 (x0 := x0) (x1 := x1) (x2 := x2) (x3 := x3) X hret hself2 hf hM (lv_sub hl [0, 1, 2, 3] rfl)
    · replace hf := m_ifF hf cc1
      refine lv_aload_n hx hb dX0_attacked_17 rfl (lv_at hl 0 rfl) ?_
      obtain ⟨ca, hf⟩ := m_chkE hf
      replace ca := z_in hM (by decide) ca
      refine z_get (k := 0) (j := 0) (C := RX0) (T := TX0) (N := 7) (fl := zf_0) (v := va_rf ((zP S 0 x0).map (zh y))) X hw_X0_attacked_0 hM rfl zc_0 ca (by decide) fl_X0_attacked_0_0 rfl dX0_attacked_18 ?_
      clear ca
      obtain ⟨b3, hb9, hf⟩ := m_calE hf
      refine z_topr hb9 ?_
      clear hb9
      refine lv_iload_n hx hb dX0_attacked_21 rfl (lv_at hl 3 rfl) ?_
      obtain ⟨ca, hf⟩ := m_chkE hf
      replace ca := z_in hM (by decide) ca
      obtain ⟨cd, hf⟩ := m_chkE hf
      refine z_iald X hM ca cd dX0_attacked_22 ?_
      clear ca cd
      obtain ⟨v4, ev, hf⟩ := m_bndE hf
      refine m_top ev ?_
      clear ev
      refine lv_iconst (v := (3 : Int32)) hx hb dX0_attacked_23 (by decide) ?_
      refine lv_ishr hx hb dX0_attacked_24 ?_
      obtain ⟨v5, ev, hf⟩ := m_bndE hf
      refine m_top ev ?_
      clear ev
      refine lv_iload_n hx hb dX0_attacked_25 rfl (lv_at hl 2 rfl) ?_
      refine lv_icmp_ne (tgt := 40) hx hb dX0_attacked_26 (by decide) (fun cc1 => ?_) (fun cc1 => ?_)
      · replace hf := m_ifF hf cc1
        exact w_X0_attacked_40 (x0 := x0) (x1 := x1) (x2 := x2) (x3 := x3) X hret hself2 hf hM (lv_sub hl [0, 1, 2, 3] rfl)
      · replace hf := m_ifT hf cc1
        refine lv_aload_n hx hb dX0_attacked_29 rfl (lv_at hl 0 rfl) ?_
        refine lv_iload_n hx hb dX0_attacked_30 rfl (lv_at hl 3 rfl) ?_
        refine lv_iload_n hx hb dX0_attacked_31 rfl (lv_at hl 1 rfl) ?_
        obtain ⟨ca, hf⟩ := m_chkE hf
        replace ca := z_in hM (by decide) ca
        obtain ⟨o6, ho, hf⟩ := m_calE hf
        refine z_callVi (k := 0) (C := RX0) (T := TX0) (N := 7) (fl := zf_0) X hM rfl zc_0 ca (c_X0_attacks ho) gX0_attacked_X0_attacks rfl ⟨rfl, rfl⟩ hd_X0_attacks ⟨Nat.le_of_ble_eq_true rfl, Nat.le_of_ble_eq_true rfl⟩ rfl hl.1 rfl (Nat.le_of_ble_eq_true rfl) dX0_attacked_32 (fun H locs hM => ?_)
        clear ho
        refine lv_if_eq (tgt := 40) hx hb dX0_attacked_35 (by decide) (fun cc1 => ?_) (fun cc1 => ?_)
        · replace hf := m_ifT hf cc1
          exact w_X0_attacked_40 (x0 := x0) (x1 := x1) (x2 := x2) (x3 := x3) X hret hself2 hf hM (lv_sub hl [0, 1, 2, 3] rfl)
        · replace hf := m_ifF hf cc1
          refine lv_iconst (v := (1 : Int32)) hx hb dX0_attacked_38 (by decide) ?_
          obtain ⟨cd, hf⟩ := m_chkE hf
          cases hf
          exact hret H locs _ ls hM (m_nb cd) dX0_attacked_39
def f_X0_attacked_2 : Nat → Nat → Int32 → Int32 → Int32 → ZS → Option (Int32 × ZS)
  | 0 => fun _ _ _ _ _ => none
  | n + 1 => f_X0_attacked_2s (f_X0_attacked_2 n)
theorem w_X0_attacked_2 {p : Program} {l : Launch} {e : Env} {s : State} {m : MethodId} {args : Array Value} {below : List Frame} {meth : Method} {c : Code} {Q : State → Prop} {D : va_G} {y : Nat → ClassId} {A0 : Nat → Prop} {o : Int32 × ZS} (X : CallFix p m c cX0_attacked 4 s args wsX0_attacked RX0) (hret : zRi p l e ({ frames := 1, cells := 0, slots := 0, locals := 32 } : Room) s m args below meth c Q cX0_attacked D y A0 .boolean o) (n : Nat) : ∀ (x0 : Nat) (x1 : Int32) (x2 : Int32) (x3 : Int32) (S : ZS) (H : Heap) (locs : List Loc) (ls : Array Slot), f_X0_attacked_2 n x0 x1 x2 x3 S = some o → zH D y A0 s H locs S → lv_has ls 4 [(0, .ref (zh y x0)), (1, .int x1), (2, .int x2), (3, .int x3)] → W p l e ({ frames := 1, cells := 0, slots := 0, locals := 32 } : Room) s m args below meth c H locs 0 0 Q (F0 m 2 ls []) := by
  induction n with
  | zero => intro x0 x1 x2 x3 S H locs ls hf; cases hf
  | succ n ih => intro x0 x1 x2 x3 S H locs ls hf hM hl; exact ws_X0_attacked_2 X hret (self2 := f_X0_attacked_2 n) ih hf hM hl
def f_X0_attacked_0 (x0 : Nat) (x1 : Int32) (x2 : Int32) (S : ZS) : Option (Int32 × ZS) :=
  f_X0_attacked_2 mFuel x0 x1 x2 (0 : Int32) S

set_option maxRecDepth 100000 in
set_option maxHeartbeats 4000000 in
theorem w_X0_attacked_0 {p : Program} {l : Launch} {e : Env} {s : State} {m : MethodId} {args : Array Value} {below : List Frame} {meth : Method} {c : Code} {Q : State → Prop} {D : va_G} {y : Nat → ClassId} {A0 : Nat → Prop} {o : Int32 × ZS} (X : CallFix p m c cX0_attacked 4 s args wsX0_attacked RX0) (hret : zRi p l e ({ frames := 1, cells := 0, slots := 0, locals := 32 } : Room) s m args below meth c Q cX0_attacked D y A0 .boolean o) {x0 : Nat} {x1 : Int32} {x2 : Int32} {S : ZS} {H : Heap} {locs : List Loc} {ls : Array Slot} (hf : f_X0_attacked_0 x0 x1 x2 S = some o) (hM : zH D y A0 s H locs S) (hl : lv_has ls 4 [(0, .ref (zh y x0)), (1, .int x1), (2, .int x2)]) : W p l e ({ frames := 1, cells := 0, slots := 0, locals := 32 } : Room) s m args below meth c H locs 0 0 Q (F0 m 0 ls []) := by
  obtain ⟨hx, hb, hml, hown, hts⟩ := id X
  unfold f_X0_attacked_0 at hf
  refine lv_iconst (v := (0 : Int32)) hx hb dX0_attacked_0 (by decide) ?_
  refine lv_istore_n (lv' := [(3, .int (0 : Int32)), (0, .ref (zh y x0)), (1, .int x1), (2, .int x2)]) hx hb dX0_attacked_1 rfl hl (by decide) rfl (fun ls hl => ?_)
  exact w_X0_attacked_2 X hret _ x0 x1 x2 (0 : Int32) _ _ _ _ hf hM (lv_sub hl [1, 2, 3, 0] rfl)
def f_X0_attacked (x0 : Nat) (x1 : Int32) (x2 : Int32) (S : ZS) : Option (Int32 × ZS) := f_X0_attacked_0 x0 x1 x2 S
theorem c_X0_attacked {l : Launch} {D : va_G} {y : Nat → ClassId} {x0 : Nat} {x1 : Int32} {x2 : Int32} {S : ZS} {o : Int32 × ZS} (hf : f_X0_attacked x0 x1 x2 S = some o) : zMi l yX0_attacked wsX0_attacked ({ frames := 1, cells := 0, slots := 0, locals := 32 } : Room) [.ref (zh y x0), .int x1, .int x2] D y S o :=
  z_entryI (own := RX0) (cc := cX0_attacked) (maxL := 4) (by decide) rfl rfl (Nat.le_of_ble_eq_true rfl) (fun p e s m args below meth c A0 Q H locs ls X hret hM hl => w_X0_attacked_0 X hret hf hM (lv_sub hl [0, 1, 2] rfl))
theorem hd_X0_pawnReaches : yX0_pawnReaches.cls = RX0 ∧ yX0_pawnReaches.cls ≠ "java/lang/invoke/MethodHandle" ∧ yX0_pawnReaches.cls ≠ "java/lang/invoke/VarHandle" ∧ (parseMethodDescriptor yX0_pawnReaches.desc).map (fun d => d.parameters.length) = some 2 := by decide +kernel
theorem fl_X0_pawnReaches_0_0 : Cond.fieldLink RX0 9 "MoveTexts$Board" "men" "[I" ∈ wsX0_pawnReaches := by decide +kernel
theorem fl_X0_pawnReaches_0_3 : Cond.fieldLink RX0 22 "MoveTexts$Board" "side" "I" ∈ wsX0_pawnReaches := by decide +kernel
theorem fl_X0_pawnReaches_0_5 : Cond.fieldLink RX0 28 "MoveTexts$Board" "passed" "I" ∈ wsX0_pawnReaches := by decide +kernel
theorem hw_X0_pawnReaches_0 : ∀ w ∈ wsX00, w ∈ wsX0_pawnReaches := by decide +kernel
def f_X0_pawnReaches_122 (t0 : Int32) (S : ZS) : Option (Int32 × ZS) :=
  m_chk (vp_nar .boolean t0 = t0) (some (t0, S))

set_option maxRecDepth 100000 in
set_option maxHeartbeats 4000000 in
theorem w_X0_pawnReaches_122 {p : Program} {l : Launch} {e : Env} {s : State} {m : MethodId} {args : Array Value} {below : List Frame} {meth : Method} {c : Code} {Q : State → Prop} {D : va_G} {y : Nat → ClassId} {A0 : Nat → Prop} {o : Int32 × ZS} (X : CallFix p m c cX0_pawnReaches 4 s args wsX0_pawnReaches RX0) (hret : zRi p l e ({ frames := 1, cells := 0, slots := 0, locals := 32 } : Room) s m args below meth c Q cX0_pawnReaches D y A0 .boolean o) {t0 : Int32} {S : ZS} {H : Heap} {locs : List Loc} {ls : Array Slot} (hf : f_X0_pawnReaches_122 t0 S = some o) (hM : zH D y A0 s H locs S) (hl : lv_has ls 4 []) : W p l e ({ frames := 1, cells := 0, slots := 0, locals := 32 } : Room) s m args below meth c H locs 0 0 Q (F0 m 122 ls [.int t0]) := by
  obtain ⟨hx, hb, hml, hown, hts⟩ := id X
  unfold f_X0_pawnReaches_122 at hf
  obtain ⟨cd, hf⟩ := m_chkE hf
  cases hf
  exact hret H locs _ ls hM (m_nb cd) dX0_pawnReaches_122
def f_X0_pawnReaches_121 (S : ZS) : Option (Int32 × ZS) :=
  f_X0_pawnReaches_122 (0 : Int32) S

set_option maxRecDepth 100000 in
set_option maxHeartbeats 4000000 in
theorem w_X0_pawnReaches_121 {p : Program} {l : Launch} {e : Env} {s : State} {m : MethodId} {args : Array Value} {below : List Frame} {meth : Method} {c : Code} {Q : State → Prop} {D : va_G} {y : Nat → ClassId} {A0 : Nat → Prop} {o : Int32 × ZS} (X : CallFix p m c cX0_pawnReaches 4 s args wsX0_pawnReaches RX0) (hret : zRi p l e ({ frames := 1, cells := 0, slots := 0, locals := 32 } : Room) s m args below meth c Q cX0_pawnReaches D y A0 .boolean o) {S : ZS} {H : Heap} {locs : List Loc} {ls : Array Slot} (hf : f_X0_pawnReaches_121  S = some o) (hM : zH D y A0 s H locs S) (hl : lv_has ls 4 []) : W p l e ({ frames := 1, cells := 0, slots := 0, locals := 32 } : Room) s m args below meth c H locs 0 0 Q (F0 m 121 ls []) := by
  obtain ⟨hx, hb, hml, hown, hts⟩ := id X
  unfold f_X0_pawnReaches_121 at hf
  refine lv_iconst (v := (0 : Int32)) hx hb dX0_pawnReaches_121 (by decide) ?_
  exact w_X0_pawnReaches_122 (t0 := (0 : Int32)) X hret hf hM (lv_sub hl [] rfl)
def f_X0_pawnReaches_117 (S : ZS) : Option (Int32 × ZS) :=
  f_X0_pawnReaches_122 (1 : Int32) S

set_option maxRecDepth 100000 in
set_option maxHeartbeats 4000000 in
theorem w_X0_pawnReaches_117 {p : Program} {l : Launch} {e : Env} {s : State} {m : MethodId} {args : Array Value} {below : List Frame} {meth : Method} {c : Code} {Q : State → Prop} {D : va_G} {y : Nat → ClassId} {A0 : Nat → Prop} {o : Int32 × ZS} (X : CallFix p m c cX0_pawnReaches 4 s args wsX0_pawnReaches RX0) (hret : zRi p l e ({ frames := 1, cells := 0, slots := 0, locals := 32 } : Room) s m args below meth c Q cX0_pawnReaches D y A0 .boolean o) {S : ZS} {H : Heap} {locs : List Loc} {ls : Array Slot} (hf : f_X0_pawnReaches_117  S = some o) (hM : zH D y A0 s H locs S) (hl : lv_has ls 4 []) : W p l e ({ frames := 1, cells := 0, slots := 0, locals := 32 } : Room) s m args below meth c H locs 0 0 Q (F0 m 117 ls []) := by
  obtain ⟨hx, hb, hml, hown, hts⟩ := id X
  unfold f_X0_pawnReaches_117 at hf
  refine lv_iconst (v := (1 : Int32)) hx hb dX0_pawnReaches_117 (by decide) ?_
  refine lv_goto (tgt := 122) hx hb dX0_pawnReaches_118 (by decide) ?_
  exact w_X0_pawnReaches_122 (t0 := (1 : Int32)) X hret hf hM (lv_sub hl [] rfl)
def f_X0_pawnReaches_90 (t0 : Int32) (S : ZS) : Option (Int32 × ZS) :=
  m_chk (vp_nar .boolean t0 = t0) (some (t0, S))

set_option maxRecDepth 100000 in
set_option maxHeartbeats 4000000 in
theorem w_X0_pawnReaches_90 {p : Program} {l : Launch} {e : Env} {s : State} {m : MethodId} {args : Array Value} {below : List Frame} {meth : Method} {c : Code} {Q : State → Prop} {D : va_G} {y : Nat → ClassId} {A0 : Nat → Prop} {o : Int32 × ZS} (X : CallFix p m c cX0_pawnReaches 4 s args wsX0_pawnReaches RX0) (hret : zRi p l e ({ frames := 1, cells := 0, slots := 0, locals := 32 } : Room) s m args below meth c Q cX0_pawnReaches D y A0 .boolean o) {t0 : Int32} {S : ZS} {H : Heap} {locs : List Loc} {ls : Array Slot} (hf : f_X0_pawnReaches_90 t0 S = some o) (hM : zH D y A0 s H locs S) (hl : lv_has ls 4 []) : W p l e ({ frames := 1, cells := 0, slots := 0, locals := 32 } : Room) s m args below meth c H locs 0 0 Q (F0 m 90 ls [.int t0]) := by
  obtain ⟨hx, hb, hml, hown, hts⟩ := id X
  unfold f_X0_pawnReaches_90 at hf
  obtain ⟨cd, hf⟩ := m_chkE hf
  cases hf
  exact hret H locs _ ls hM (m_nb cd) dX0_pawnReaches_90
def f_X0_pawnReaches_89 (S : ZS) : Option (Int32 × ZS) :=
  f_X0_pawnReaches_90 (0 : Int32) S

set_option maxRecDepth 100000 in
set_option maxHeartbeats 4000000 in
theorem w_X0_pawnReaches_89 {p : Program} {l : Launch} {e : Env} {s : State} {m : MethodId} {args : Array Value} {below : List Frame} {meth : Method} {c : Code} {Q : State → Prop} {D : va_G} {y : Nat → ClassId} {A0 : Nat → Prop} {o : Int32 × ZS} (X : CallFix p m c cX0_pawnReaches 4 s args wsX0_pawnReaches RX0) (hret : zRi p l e ({ frames := 1, cells := 0, slots := 0, locals := 32 } : Room) s m args below meth c Q cX0_pawnReaches D y A0 .boolean o) {S : ZS} {H : Heap} {locs : List Loc} {ls : Array Slot} (hf : f_X0_pawnReaches_89  S = some o) (hM : zH D y A0 s H locs S) (hl : lv_has ls 4 []) : W p l e ({ frames := 1, cells := 0, slots := 0, locals := 32 } : Room) s m args below meth c H locs 0 0 Q (F0 m 89 ls []) := by
  obtain ⟨hx, hb, hml, hown, hts⟩ := id X
  unfold f_X0_pawnReaches_89 at hf
  refine lv_iconst (v := (0 : Int32)) hx hb dX0_pawnReaches_89 (by decide) ?_
  exact w_X0_pawnReaches_90 (t0 := (0 : Int32)) X hret hf hM (lv_sub hl [] rfl)
def f_X0_pawnReaches_62 (x0 : Nat) (x1 : Int32) (x2 : Int32) (x3 : Int32) (t0 : Int32) (t1 : Int32) (S : ZS) : Option (Int32 × ZS) :=
  m_if (t1 = t0) (
  m_chk (zK S x0 = 0) (
  m_cal (zP S 0 x0) (fun b1 =>
  m_bnd (x1 + x3) (fun v2 =>
  m_chk (zK S b1 = 14) (
  m_chk (¬ (v2 < 0 ∨ zN S b1 ≤ (v2).toNatClampNeg)) (
  m_bnd (zA S b1 (v2).toNatClampNeg) (fun v3 =>
  m_if (v3 = 0) (
  m_chk (zK S x0 = 0) (
  m_cal (zP S 0 x0) (fun b4 =>
  m_chk (zK S b4 = 14) (
  m_chk (¬ (x2 < 0 ∨ zN S b4 ≤ (x2).toNatClampNeg)) (
  m_bnd (zA S b4 (x2).toNatClampNeg) (fun v5 =>
  m_if (v5 = 0) (
  f_X0_pawnReaches_90 (1 : Int32) S
  ) (
  f_X0_pawnReaches_89  S
  ))))))
  ) (
  f_X0_pawnReaches_89  S
  )))))))
  ) (
  f_X0_pawnReaches_89  S
  )

set_option maxRecDepth 100000 in
set_option maxHeartbeats 4000000 in
theorem w_X0_pawnReaches_62 {p : Program} {l : Launch} {e : Env} {s : State} {m : MethodId} {args : Array Value} {below : List Frame} {meth : Method} {c : Code} {Q : State → Prop} {D : va_G} {y : Nat → ClassId} {A0 : Nat → Prop} {o : Int32 × ZS} (X : CallFix p m c cX0_pawnReaches 4 s args wsX0_pawnReaches RX0) (hret : zRi p l e ({ frames := 1, cells := 0, slots := 0, locals := 32 } : Room) s m args below meth c Q cX0_pawnReaches D y A0 .boolean o) {x0 : Nat} {x1 : Int32} {x2 : Int32} {x3 : Int32} {t0 : Int32} {t1 : Int32} {S : ZS} {H : Heap} {locs : List Loc} {ls : Array Slot} (hf : f_X0_pawnReaches_62 x0 x1 x2 x3 t0 t1 S = some o) (hM : zH D y A0 s H locs S) (hl : lv_has ls 4 [(0, .ref (zh y x0)), (1, .int x1), (2, .int x2), (3, .int x3)]) : W p l e ({ frames := 1, cells := 0, slots := 0, locals := 32 } : Room) s m args below meth c H locs 0 0 Q (F0 m 62 ls [.int t0, .int t1]) := by
  obtain ⟨hx, hb, hml, hown, hts⟩ := id X
  unfold f_X0_pawnReaches_62 at hf
  refine lv_icmp_ne (tgt := 89) hx hb dX0_pawnReaches_62 (by decide) (fun cc1 => ?_) (fun cc1 => ?_)
  · replace hf := m_ifF hf cc1
    exact w_X0_pawnReaches_89 X hret hf hM (lv_sub hl [] rfl)
  · replace hf := m_ifT hf cc1
    refine lv_aload_n hx hb dX0_pawnReaches_65 rfl (lv_at hl 0 rfl) ?_
    obtain ⟨ca, hf⟩ := m_chkE hf
    replace ca := z_in hM (by decide) ca
    refine z_get (k := 0) (j := 0) (C := RX0) (T := TX0) (N := 7) (fl := zf_0) (v := va_rf ((zP S 0 x0).map (zh y))) X hw_X0_pawnReaches_0 hM rfl zc_0 ca (by decide) fl_X0_pawnReaches_0_0 rfl dX0_pawnReaches_66 ?_
    clear ca
    obtain ⟨b1, hb9, hf⟩ := m_calE hf
    refine z_topr hb9 ?_
    clear hb9
    refine lv_iload_n hx hb dX0_pawnReaches_69 rfl (lv_at hl 1 rfl) ?_
    refine lv_iload_n hx hb dX0_pawnReaches_70 rfl (lv_at hl 3 rfl) ?_
    refine lv_iadd hx hb dX0_pawnReaches_71 ?_
    obtain ⟨v2, ev, hf⟩ := m_bndE hf
    refine m_top ev ?_
    clear ev
    obtain ⟨ca, hf⟩ := m_chkE hf
    replace ca := z_in hM (by decide) ca
    obtain ⟨cd, hf⟩ := m_chkE hf
    refine z_iald X hM ca cd dX0_pawnReaches_72 ?_
    clear ca cd
    obtain ⟨v3, ev, hf⟩ := m_bndE hf
    refine m_top ev ?_
    clear ev
    refine lv_if_ne (tgt := 89) hx hb dX0_pawnReaches_73 (by decide) (fun cc1 => ?_) (fun cc1 => ?_)
    · replace hf := m_ifF hf cc1
      exact w_X0_pawnReaches_89 X hret hf hM (lv_sub hl [] rfl)
    · replace hf := m_ifT hf cc1
      refine lv_aload_n hx hb dX0_pawnReaches_76 rfl (lv_at hl 0 rfl) ?_
      obtain ⟨ca, hf⟩ := m_chkE hf
      replace ca := z_in hM (by decide) ca
      refine z_get (k := 0) (j := 0) (C := RX0) (T := TX0) (N := 7) (fl := zf_0) (v := va_rf ((zP S 0 x0).map (zh y))) X hw_X0_pawnReaches_0 hM rfl zc_0 ca (by decide) fl_X0_pawnReaches_0_0 rfl dX0_pawnReaches_77 ?_
      clear ca
      obtain ⟨b4, hb9, hf⟩ := m_calE hf
      refine z_topr hb9 ?_
      clear hb9
      refine lv_iload_n hx hb dX0_pawnReaches_80 rfl (lv_at hl 2 rfl) ?_
      obtain ⟨ca, hf⟩ := m_chkE hf
      replace ca := z_in hM (by decide) ca
      obtain ⟨cd, hf⟩ := m_chkE hf
      refine z_iald X hM ca cd dX0_pawnReaches_81 ?_
      clear ca cd
      obtain ⟨v5, ev, hf⟩ := m_bndE hf
      refine m_top ev ?_
      clear ev
      refine lv_if_ne (tgt := 89) hx hb dX0_pawnReaches_82 (by decide) (fun cc1 => ?_) (fun cc1 => ?_)
      · replace hf := m_ifF hf cc1
        exact w_X0_pawnReaches_89 X hret hf hM (lv_sub hl [] rfl)
      · replace hf := m_ifT hf cc1
        refine lv_iconst (v := (1 : Int32)) hx hb dX0_pawnReaches_85 (by decide) ?_
        refine lv_goto (tgt := 90) hx hb dX0_pawnReaches_86 (by decide) ?_
        exact w_X0_pawnReaches_90 (t0 := (1 : Int32)) X hret hf hM (lv_sub hl [] rfl)
def f_X0_pawnReaches_36 (t0 : Int32) (S : ZS) : Option (Int32 × ZS) :=
  m_chk (vp_nar .boolean t0 = t0) (some (t0, S))

set_option maxRecDepth 100000 in
set_option maxHeartbeats 4000000 in
theorem w_X0_pawnReaches_36 {p : Program} {l : Launch} {e : Env} {s : State} {m : MethodId} {args : Array Value} {below : List Frame} {meth : Method} {c : Code} {Q : State → Prop} {D : va_G} {y : Nat → ClassId} {A0 : Nat → Prop} {o : Int32 × ZS} (X : CallFix p m c cX0_pawnReaches 4 s args wsX0_pawnReaches RX0) (hret : zRi p l e ({ frames := 1, cells := 0, slots := 0, locals := 32 } : Room) s m args below meth c Q cX0_pawnReaches D y A0 .boolean o) {t0 : Int32} {S : ZS} {H : Heap} {locs : List Loc} {ls : Array Slot} (hf : f_X0_pawnReaches_36 t0 S = some o) (hM : zH D y A0 s H locs S) (hl : lv_has ls 4 []) : W p l e ({ frames := 1, cells := 0, slots := 0, locals := 32 } : Room) s m args below meth c H locs 0 0 Q (F0 m 36 ls [.int t0]) := by
  obtain ⟨hx, hb, hml, hown, hts⟩ := id X
  unfold f_X0_pawnReaches_36 at hf
  obtain ⟨cd, hf⟩ := m_chkE hf
  cases hf
  exact hret H locs _ ls hM (m_nb cd) dX0_pawnReaches_36
def f_X0_pawnReaches_14 (x0 : Nat) (x1 : Int32) (x2 : Int32) (t0 : Int32) (S : ZS) : Option (Int32 × ZS) :=
  m_bnd (x1 + t0) (fun v1 =>
  m_if (x2 = v1) (
  m_chk (zK S x0 = 0) (
  m_cal (zP S 0 x0) (fun b8 =>
  m_chk (zK S b8 = 14) (
  m_chk (¬ (x2 < 0 ∨ zN S b8 ≤ (x2).toNatClampNeg)) (
  m_bnd (zA S b8 (x2).toNatClampNeg) (fun v9 =>
  m_if (v9 = 0) (
  f_X0_pawnReaches_36 (1 : Int32) S
  ) (
  f_X0_pawnReaches_36 (0 : Int32) S
  ))))))
  ) (
  m_bnd ((2 : Int32) * t0) (fun v2 =>
  m_bnd (x1 + v2) (fun v3 =>
  m_if (x2 = v3) (
  m_bnd (x1 >>> ((3 : Int32) &&& 31)) (fun v7 =>
  m_chk (zK S x0 = 0) (
  m_if ((zI S 3 x0) = 0) (
  f_X0_pawnReaches_62 x0 x1 x2 t0 (1 : Int32) v7 S
  ) (
  f_X0_pawnReaches_62 x0 x1 x2 t0 (6 : Int32) v7 S
  )))
  ) (
  m_chk (zK S x0 = 0) (
  m_cal (f_X0_attacks x0 x1 x2 S) (fun o4 =>
  m_if (o4.1 = 0) (
  f_X0_pawnReaches_121  o4.2
  ) (
  m_chk (zK o4.2 x0 = 0) (
  m_cal (zP o4.2 0 x0) (fun b5 =>
  m_chk (zK o4.2 b5 = 14) (
  m_chk (¬ (x2 < 0 ∨ zN o4.2 b5 ≤ (x2).toNatClampNeg)) (
  m_bnd (zA o4.2 b5 (x2).toNatClampNeg) (fun v6 =>
  m_if (v6 = 0) (
  m_chk (zK o4.2 x0 = 0) (
  m_if (x2 = (zI o4.2 5 x0)) (
  f_X0_pawnReaches_117  o4.2
  ) (
  f_X0_pawnReaches_121  o4.2
  ))
  ) (
  f_X0_pawnReaches_117  o4.2
  ))))))
  )))
  )))
  ))

set_option maxRecDepth 100000 in
set_option maxHeartbeats 4000000 in
theorem w_X0_pawnReaches_14 {p : Program} {l : Launch} {e : Env} {s : State} {m : MethodId} {args : Array Value} {below : List Frame} {meth : Method} {c : Code} {Q : State → Prop} {D : va_G} {y : Nat → ClassId} {A0 : Nat → Prop} {o : Int32 × ZS} (X : CallFix p m c cX0_pawnReaches 4 s args wsX0_pawnReaches RX0) (hret : zRi p l e ({ frames := 1, cells := 0, slots := 0, locals := 32 } : Room) s m args below meth c Q cX0_pawnReaches D y A0 .boolean o) {x0 : Nat} {x1 : Int32} {x2 : Int32} {t0 : Int32} {S : ZS} {H : Heap} {locs : List Loc} {ls : Array Slot} (hf : f_X0_pawnReaches_14 x0 x1 x2 t0 S = some o) (hM : zH D y A0 s H locs S) (hl : lv_has ls 4 [(0, .ref (zh y x0)), (1, .int x1), (2, .int x2)]) : W p l e ({ frames := 1, cells := 0, slots := 0, locals := 32 } : Room) s m args below meth c H locs 0 0 Q (F0 m 14 ls [.int t0]) := by
  obtain ⟨hx, hb, hml, hown, hts⟩ := id X
  unfold f_X0_pawnReaches_14 at hf
  refine lv_istore_n (lv' := [(3, .int t0), (0, .ref (zh y x0)), (1, .int x1), (2, .int x2)]) hx hb dX0_pawnReaches_14 rfl hl (by decide) rfl (fun ls hl => ?_)
  refine lv_iload_n hx hb dX0_pawnReaches_15 rfl (lv_at hl 3 rfl) ?_
  refine lv_iload_n hx hb dX0_pawnReaches_16 rfl (lv_at hl 2 rfl) ?_
  refine lv_iload_n hx hb dX0_pawnReaches_17 rfl (lv_at hl 0 rfl) ?_
  refine lv_iadd hx hb dX0_pawnReaches_18 ?_
  obtain ⟨v1, ev, hf⟩ := m_bndE hf
  refine m_top ev ?_
  clear ev
  refine lv_icmp_ne (tgt := 37) hx hb dX0_pawnReaches_19 (by decide) (fun cc1 => ?_) (fun cc1 => ?_)
  · replace hf := m_ifF hf cc1
    refine lv_iload_n hx hb dX0_pawnReaches_37 rfl (lv_at hl 3 rfl) ?_
    refine lv_iload_n hx hb dX0_pawnReaches_38 rfl (lv_at hl 2 rfl) ?_
    refine lv_iconst (v := (2 : Int32)) hx hb dX0_pawnReaches_39 (by decide) ?_
    refine lv_iload_n hx hb dX0_pawnReaches_40 rfl (lv_at hl 0 rfl) ?_
    refine lv_imul hx hb dX0_pawnReaches_41 ?_
    obtain ⟨v2, ev, hf⟩ := m_bndE hf
    refine m_top ev ?_
    clear ev
    refine lv_iadd hx hb dX0_pawnReaches_42 ?_
    obtain ⟨v3, ev, hf⟩ := m_bndE hf
    refine m_top ev ?_
    clear ev
    refine lv_icmp_ne (tgt := 91) hx hb dX0_pawnReaches_43 (by decide) (fun cc1 => ?_) (fun cc1 => ?_)
    · replace hf := m_ifF hf cc1
      refine lv_aload_n hx hb dX0_pawnReaches_91 rfl (lv_at hl 1 rfl) ?_
      refine lv_iload_n hx hb dX0_pawnReaches_92 rfl (lv_at hl 2 rfl) ?_
      refine lv_iload_n hx hb dX0_pawnReaches_93 rfl (lv_at hl 3 rfl) ?_
      obtain ⟨ca, hf⟩ := m_chkE hf
      replace ca := z_in hM (by decide) ca
      obtain ⟨o4, ho, hf⟩ := m_calE hf
      refine z_callVi (k := 0) (C := RX0) (T := TX0) (N := 7) (fl := zf_0) X hM rfl zc_0 ca (c_X0_attacks ho) gX0_pawnReaches_X0_attacks rfl ⟨rfl, rfl⟩ hd_X0_attacks ⟨Nat.le_of_ble_eq_true rfl, Nat.le_of_ble_eq_true rfl⟩ rfl hl.1 rfl (Nat.le_of_ble_eq_true rfl) dX0_pawnReaches_94 (fun H locs hM => ?_)
      clear ho
      refine lv_if_eq (tgt := 121) hx hb dX0_pawnReaches_97 (by decide) (fun cc1 => ?_) (fun cc1 => ?_)
      · replace hf := m_ifT hf cc1
        exact w_X0_pawnReaches_121 X hret hf hM (lv_sub hl [] rfl)
      · replace hf := m_ifF hf cc1
        refine lv_aload_n hx hb dX0_pawnReaches_100 rfl (lv_at hl 1 rfl) ?_
        obtain ⟨ca, hf⟩ := m_chkE hf
        replace ca := z_in hM (by decide) ca
        refine z_get (k := 0) (j := 0) (C := RX0) (T := TX0) (N := 7) (fl := zf_0) (v := va_rf ((zP o4.2 0 x0).map (zh y))) X hw_X0_pawnReaches_0 hM rfl zc_0 ca (by decide) fl_X0_pawnReaches_0_0 rfl dX0_pawnReaches_101 ?_
        clear ca
        obtain ⟨b5, hb9, hf⟩ := m_calE hf
        refine z_topr hb9 ?_
        clear hb9
        refine lv_iload_n hx hb dX0_pawnReaches_104 rfl (lv_at hl 3 rfl) ?_
        obtain ⟨ca, hf⟩ := m_chkE hf
        replace ca := z_in hM (by decide) ca
        obtain ⟨cd, hf⟩ := m_chkE hf
        refine z_iald X hM ca cd dX0_pawnReaches_105 ?_
        clear ca cd
        obtain ⟨v6, ev, hf⟩ := m_bndE hf
        refine m_top ev ?_
        clear ev
        refine lv_if_ne (tgt := 117) hx hb dX0_pawnReaches_106 (by decide) (fun cc1 => ?_) (fun cc1 => ?_)
        · replace hf := m_ifF hf cc1
          exact w_X0_pawnReaches_117 X hret hf hM (lv_sub hl [] rfl)
        · replace hf := m_ifT hf cc1
          refine lv_iload_n hx hb dX0_pawnReaches_109 rfl (lv_at hl 3 rfl) ?_
          refine lv_aload_n hx hb dX0_pawnReaches_110 rfl (lv_at hl 1 rfl) ?_
          obtain ⟨ca, hf⟩ := m_chkE hf
          replace ca := z_in hM (by decide) ca
          refine z_get (k := 0) (j := 5) (C := RX0) (T := TX0) (N := 7) (fl := zf_0) (v := .int (zI o4.2 5 x0)) X hw_X0_pawnReaches_0 hM rfl zc_0 ca (by decide) fl_X0_pawnReaches_0_5 rfl dX0_pawnReaches_111 ?_
          clear ca
          refine lv_icmp_ne (tgt := 121) hx hb dX0_pawnReaches_114 (by decide) (fun cc1 => ?_) (fun cc1 => ?_)
          · replace hf := m_ifF hf cc1
            exact w_X0_pawnReaches_121 X hret hf hM (lv_sub hl [] rfl)
          · replace hf := m_ifT hf cc1
            exact w_X0_pawnReaches_117 X hret hf hM (lv_sub hl [] rfl)
    · replace hf := m_ifT hf cc1
      refine lv_iload_n hx hb dX0_pawnReaches_46 rfl (lv_at hl 2 rfl) ?_
      refine lv_iconst (v := (3 : Int32)) hx hb dX0_pawnReaches_47 (by decide) ?_
      refine lv_ishr hx hb dX0_pawnReaches_48 ?_
      obtain ⟨v7, ev, hf⟩ := m_bndE hf
      refine m_top ev ?_
      clear ev
      refine lv_aload_n hx hb dX0_pawnReaches_49 rfl (lv_at hl 1 rfl) ?_
      obtain ⟨ca, hf⟩ := m_chkE hf
      replace ca := z_in hM (by decide) ca
      refine z_get (k := 0) (j := 3) (C := RX0) (T := TX0) (N := 7) (fl := zf_0) (v := .int (zI S 3 x0)) X hw_X0_pawnReaches_0 hM rfl zc_0 ca (by decide) fl_X0_pawnReaches_0_3 rfl dX0_pawnReaches_50 ?_
      clear ca
      refine lv_if_ne (tgt := 60) hx hb dX0_pawnReaches_53 (by decide) (fun cc1 => ?_) (fun cc1 => ?_)
      · replace hf := m_ifF hf cc1
        refine lv_bipush (v := (6 : Int32)) hx hb dX0_pawnReaches_60 (by decide) ?_
        exact w_X0_pawnReaches_62 (x0 := x0) (x1 := x1) (x2 := x2) (x3 := t0) (t0 := (6 : Int32)) (t1 := v7) X hret hf hM (lv_sub hl [1, 2, 3, 0] rfl)
      · replace hf := m_ifT hf cc1
        refine lv_iconst (v := (1 : Int32)) hx hb dX0_pawnReaches_56 (by decide) ?_
        refine lv_goto (tgt := 62) hx hb dX0_pawnReaches_57 (by decide) ?_
        exact w_X0_pawnReaches_62 (x0 := x0) (x1 := x1) (x2 := x2) (x3 := t0) (t0 := (1 : Int32)) (t1 := v7) X hret hf hM (lv_sub hl [1, 2, 3, 0] rfl)
  · replace hf := m_ifT hf cc1
    refine lv_aload_n hx hb dX0_pawnReaches_22 rfl (lv_at hl 1 rfl) ?_
    obtain ⟨ca, hf⟩ := m_chkE hf
    replace ca := z_in hM (by decide) ca
    refine z_get (k := 0) (j := 0) (C := RX0) (T := TX0) (N := 7) (fl := zf_0) (v := va_rf ((zP S 0 x0).map (zh y))) X hw_X0_pawnReaches_0 hM rfl zc_0 ca (by decide) fl_X0_pawnReaches_0_0 rfl dX0_pawnReaches_23 ?_
    clear ca
    obtain ⟨b8, hb9, hf⟩ := m_calE hf
    refine z_topr hb9 ?_
    clear hb9
    refine lv_iload_n hx hb dX0_pawnReaches_26 rfl (lv_at hl 3 rfl) ?_
    obtain ⟨ca, hf⟩ := m_chkE hf
    replace ca := z_in hM (by decide) ca
    obtain ⟨cd, hf⟩ := m_chkE hf
    refine z_iald X hM ca cd dX0_pawnReaches_27 ?_
    clear ca cd
    obtain ⟨v9, ev, hf⟩ := m_bndE hf
    refine m_top ev ?_
    clear ev
    refine lv_if_ne (tgt := 35) hx hb dX0_pawnReaches_28 (by decide) (fun cc1 => ?_) (fun cc1 => ?_)
    · replace hf := m_ifF hf cc1
      refine lv_iconst (v := (0 : Int32)) hx hb dX0_pawnReaches_35 (by decide) ?_
      exact w_X0_pawnReaches_36 (t0 := (0 : Int32)) X hret hf hM (lv_sub hl [] rfl)
    · replace hf := m_ifT hf cc1
      refine lv_iconst (v := (1 : Int32)) hx hb dX0_pawnReaches_31 (by decide) ?_
      refine lv_goto (tgt := 36) hx hb dX0_pawnReaches_32 (by decide) ?_
      exact w_X0_pawnReaches_36 (t0 := (1 : Int32)) X hret hf hM (lv_sub hl [] rfl)
def f_X0_pawnReaches_0 (x0 : Nat) (x1 : Int32) (x2 : Int32) (S : ZS) : Option (Int32 × ZS) :=
  m_chk (zK S x0 = 0) (
  m_if ((zI S 3 x0) = 0) (
  f_X0_pawnReaches_14 x0 x1 x2 (8 : Int32) S
  ) (
  f_X0_pawnReaches_14 x0 x1 x2 (-8 : Int32) S
  ))

set_option maxRecDepth 100000 in
set_option maxHeartbeats 4000000 in
theorem w_X0_pawnReaches_0 {p : Program} {l : Launch} {e : Env} {s : State} {m : MethodId} {args : Array Value} {below : List Frame} {meth : Method} {c : Code} {Q : State → Prop} {D : va_G} {y : Nat → ClassId} {A0 : Nat → Prop} {o : Int32 × ZS} (X : CallFix p m c cX0_pawnReaches 4 s args wsX0_pawnReaches RX0) (hret : zRi p l e ({ frames := 1, cells := 0, slots := 0, locals := 32 } : Room) s m args below meth c Q cX0_pawnReaches D y A0 .boolean o) {x0 : Nat} {x1 : Int32} {x2 : Int32} {S : ZS} {H : Heap} {locs : List Loc} {ls : Array Slot} (hf : f_X0_pawnReaches_0 x0 x1 x2 S = some o) (hM : zH D y A0 s H locs S) (hl : lv_has ls 4 [(0, .ref (zh y x0)), (1, .int x1), (2, .int x2)]) : W p l e ({ frames := 1, cells := 0, slots := 0, locals := 32 } : Room) s m args below meth c H locs 0 0 Q (F0 m 0 ls []) := by
  obtain ⟨hx, hb, hml, hown, hts⟩ := id X
  unfold f_X0_pawnReaches_0 at hf
  refine lv_aload_n hx hb dX0_pawnReaches_0 rfl (lv_at hl 0 rfl) ?_
  obtain ⟨ca, hf⟩ := m_chkE hf
  replace ca := z_in hM (by decide) ca
  refine z_get (k := 0) (j := 3) (C := RX0) (T := TX0) (N := 7) (fl := zf_0) (v := .int (zI S 3 x0)) X hw_X0_pawnReaches_0 hM rfl zc_0 ca (by decide) fl_X0_pawnReaches_0_3 rfl dX0_pawnReaches_1 ?_
  clear ca
  refine lv_if_ne (tgt := 12) hx hb dX0_pawnReaches_4 (by decide) (fun cc1 => ?_) (fun cc1 => ?_)
  · replace hf := m_ifF hf cc1
    refine lv_bipush (v := (-8 : Int32)) hx hb dX0_pawnReaches_12 (by decide) ?_
    exact w_X0_pawnReaches_14 (x0 := x0) (x1 := x1) (x2 := x2) (t0 := (-8 : Int32)) X hret hf hM (lv_sub hl [0, 1, 2] rfl)
  · replace hf := m_ifT hf cc1
    refine lv_bipush (v := (8 : Int32)) hx hb dX0_pawnReaches_7 (by decide) ?_
    refine lv_goto (tgt := 14) hx hb dX0_pawnReaches_9 (by decide) ?_
    exact w_X0_pawnReaches_14 (x0 := x0) (x1 := x1) (x2 := x2) (t0 := (8 : Int32)) X hret hf hM (lv_sub hl [0, 1, 2] rfl)
def f_X0_pawnReaches (x0 : Nat) (x1 : Int32) (x2 : Int32) (S : ZS) : Option (Int32 × ZS) := f_X0_pawnReaches_0 x0 x1 x2 S
theorem c_X0_pawnReaches {l : Launch} {D : va_G} {y : Nat → ClassId} {x0 : Nat} {x1 : Int32} {x2 : Int32} {S : ZS} {o : Int32 × ZS} (hf : f_X0_pawnReaches x0 x1 x2 S = some o) : zMi l yX0_pawnReaches wsX0_pawnReaches ({ frames := 1, cells := 0, slots := 0, locals := 32 } : Room) [.ref (zh y x0), .int x1, .int x2] D y S o :=
  z_entryI (own := RX0) (cc := cX0_pawnReaches) (maxL := 4) (by decide) rfl rfl (Nat.le_of_ble_eq_true rfl) (fun p e s m args below meth c A0 Q H locs ls X hret hM hl => w_X0_pawnReaches_0 X hret hf hM (lv_sub hl [0, 1, 2] rfl))
theorem hd_X0_castles : yX0_castles.cls = RX0 ∧ yX0_castles.cls ≠ "java/lang/invoke/MethodHandle" ∧ yX0_castles.cls ≠ "java/lang/invoke/VarHandle" ∧ (parseMethodDescriptor yX0_castles.desc).map (fun d => d.parameters.length) = some 2 := by decide +kernel
theorem fl_X0_castles_0_0 : Cond.fieldLink RX0 9 "MoveTexts$Board" "men" "[I" ∈ wsX0_castles := by decide +kernel
theorem hw_X0_castles_0 : ∀ w ∈ wsX00, w ∈ wsX0_castles := by decide +kernel
def f_X0_castles_42 (t0 : Int32) (S : ZS) : Option (Int32 × ZS) :=
  m_chk (vp_nar .boolean t0 = t0) (some (t0, S))

set_option maxRecDepth 100000 in
set_option maxHeartbeats 4000000 in
theorem w_X0_castles_42 {p : Program} {l : Launch} {e : Env} {s : State} {m : MethodId} {args : Array Value} {below : List Frame} {meth : Method} {c : Code} {Q : State → Prop} {D : va_G} {y : Nat → ClassId} {A0 : Nat → Prop} {o : Int32 × ZS} (X : CallFix p m c cX0_castles 3 s args wsX0_castles RX0) (hret : zRi p l e ({ frames := 0, cells := 0, slots := 0, locals := 0 } : Room) s m args below meth c Q cX0_castles D y A0 .boolean o) {t0 : Int32} {S : ZS} {H : Heap} {locs : List Loc} {ls : Array Slot} (hf : f_X0_castles_42 t0 S = some o) (hM : zH D y A0 s H locs S) (hl : lv_has ls 3 []) : W p l e ({ frames := 0, cells := 0, slots := 0, locals := 0 } : Room) s m args below meth c H locs 0 0 Q (F0 m 42 ls [.int t0]) := by
  obtain ⟨hx, hb, hml, hown, hts⟩ := id X
  unfold f_X0_castles_42 at hf
  obtain ⟨cd, hf⟩ := m_chkE hf
  cases hf
  exact hret H locs _ ls hM (m_nb cd) dX0_castles_42
def f_X0_castles_41 (S : ZS) : Option (Int32 × ZS) :=
  f_X0_castles_42 (0 : Int32) S

set_option maxRecDepth 100000 in
set_option maxHeartbeats 4000000 in
theorem w_X0_castles_41 {p : Program} {l : Launch} {e : Env} {s : State} {m : MethodId} {args : Array Value} {below : List Frame} {meth : Method} {c : Code} {Q : State → Prop} {D : va_G} {y : Nat → ClassId} {A0 : Nat → Prop} {o : Int32 × ZS} (X : CallFix p m c cX0_castles 3 s args wsX0_castles RX0) (hret : zRi p l e ({ frames := 0, cells := 0, slots := 0, locals := 0 } : Room) s m args below meth c Q cX0_castles D y A0 .boolean o) {S : ZS} {H : Heap} {locs : List Loc} {ls : Array Slot} (hf : f_X0_castles_41  S = some o) (hM : zH D y A0 s H locs S) (hl : lv_has ls 3 []) : W p l e ({ frames := 0, cells := 0, slots := 0, locals := 0 } : Room) s m args below meth c H locs 0 0 Q (F0 m 41 ls []) := by
  obtain ⟨hx, hb, hml, hown, hts⟩ := id X
  unfold f_X0_castles_41 at hf
  refine lv_iconst (v := (0 : Int32)) hx hb dX0_castles_41 (by decide) ?_
  exact w_X0_castles_42 (t0 := (0 : Int32)) X hret hf hM (lv_sub hl [] rfl)
def f_X0_castles_37 (S : ZS) : Option (Int32 × ZS) :=
  f_X0_castles_42 (1 : Int32) S

set_option maxRecDepth 100000 in
set_option maxHeartbeats 4000000 in
theorem w_X0_castles_37 {p : Program} {l : Launch} {e : Env} {s : State} {m : MethodId} {args : Array Value} {below : List Frame} {meth : Method} {c : Code} {Q : State → Prop} {D : va_G} {y : Nat → ClassId} {A0 : Nat → Prop} {o : Int32 × ZS} (X : CallFix p m c cX0_castles 3 s args wsX0_castles RX0) (hret : zRi p l e ({ frames := 0, cells := 0, slots := 0, locals := 0 } : Room) s m args below meth c Q cX0_castles D y A0 .boolean o) {S : ZS} {H : Heap} {locs : List Loc} {ls : Array Slot} (hf : f_X0_castles_37  S = some o) (hM : zH D y A0 s H locs S) (hl : lv_has ls 3 []) : W p l e ({ frames := 0, cells := 0, slots := 0, locals := 0 } : Room) s m args below meth c H locs 0 0 Q (F0 m 37 ls []) := by
  obtain ⟨hx, hb, hml, hown, hts⟩ := id X
  unfold f_X0_castles_37 at hf
  refine lv_iconst (v := (1 : Int32)) hx hb dX0_castles_37 (by decide) ?_
  refine lv_goto (tgt := 42) hx hb dX0_castles_38 (by decide) ?_
  exact w_X0_castles_42 (t0 := (1 : Int32)) X hret hf hM (lv_sub hl [] rfl)
def f_X0_castles_0 (x0 : Nat) (x1 : Int32) (x2 : Int32) (S : ZS) : Option (Int32 × ZS) :=
  m_chk (zK S x0 = 0) (
  m_cal (zP S 0 x0) (fun b1 =>
  m_chk (zK S b1 = 14) (
  m_chk (¬ (x1 < 0 ∨ zN S b1 ≤ (x1).toNatClampNeg)) (
  m_bnd (zA S b1 (x1).toNatClampNeg) (fun v2 =>
  m_bnd (v2 &&& (7 : Int32)) (fun v3 =>
  m_if (v3 = (6 : Int32)) (
  m_bnd (x1 >>> ((3 : Int32) &&& 31)) (fun v4 =>
  m_bnd (x2 >>> ((3 : Int32) &&& 31)) (fun v5 =>
  m_if (v4 = v5) (
  m_bnd (x1 + (2 : Int32)) (fun v6 =>
  m_if (x2 = v6) (
  f_X0_castles_37  S
  ) (
  m_bnd (x1 - (2 : Int32)) (fun v7 =>
  m_if (x2 = v7) (
  f_X0_castles_37  S
  ) (
  f_X0_castles_41  S
  ))
  ))
  ) (
  f_X0_castles_41  S
  )))
  ) (
  f_X0_castles_41  S
  )))))))

set_option maxRecDepth 100000 in
set_option maxHeartbeats 4000000 in
theorem w_X0_castles_0 {p : Program} {l : Launch} {e : Env} {s : State} {m : MethodId} {args : Array Value} {below : List Frame} {meth : Method} {c : Code} {Q : State → Prop} {D : va_G} {y : Nat → ClassId} {A0 : Nat → Prop} {o : Int32 × ZS} (X : CallFix p m c cX0_castles 3 s args wsX0_castles RX0) (hret : zRi p l e ({ frames := 0, cells := 0, slots := 0, locals := 0 } : Room) s m args below meth c Q cX0_castles D y A0 .boolean o) {x0 : Nat} {x1 : Int32} {x2 : Int32} {S : ZS} {H : Heap} {locs : List Loc} {ls : Array Slot} (hf : f_X0_castles_0 x0 x1 x2 S = some o) (hM : zH D y A0 s H locs S) (hl : lv_has ls 3 [(0, .ref (zh y x0)), (1, .int x1), (2, .int x2)]) : W p l e ({ frames := 0, cells := 0, slots := 0, locals := 0 } : Room) s m args below meth c H locs 0 0 Q (F0 m 0 ls []) := by
  obtain ⟨hx, hb, hml, hown, hts⟩ := id X
  unfold f_X0_castles_0 at hf
  refine lv_aload_n hx hb dX0_castles_0 rfl (lv_at hl 0 rfl) ?_
  obtain ⟨ca, hf⟩ := m_chkE hf
  replace ca := z_in hM (by decide) ca
  refine z_get (k := 0) (j := 0) (C := RX0) (T := TX0) (N := 7) (fl := zf_0) (v := va_rf ((zP S 0 x0).map (zh y))) X hw_X0_castles_0 hM rfl zc_0 ca (by decide) fl_X0_castles_0_0 rfl dX0_castles_1 ?_
  clear ca
  obtain ⟨b1, hb9, hf⟩ := m_calE hf
  refine z_topr hb9 ?_
  clear hb9
  refine lv_iload_n hx hb dX0_castles_4 rfl (lv_at hl 1 rfl) ?_
  obtain ⟨ca, hf⟩ := m_chkE hf
  replace ca := z_in hM (by decide) ca
  obtain ⟨cd, hf⟩ := m_chkE hf
  refine z_iald X hM ca cd dX0_castles_5 ?_
  clear ca cd
  obtain ⟨v2, ev, hf⟩ := m_bndE hf
  refine m_top ev ?_
  clear ev
  refine lv_bipush (v := (7 : Int32)) hx hb dX0_castles_6 (by decide) ?_
  refine lv_iand hx hb dX0_castles_8 ?_
  obtain ⟨v3, ev, hf⟩ := m_bndE hf
  refine m_top ev ?_
  clear ev
  refine lv_bipush (v := (6 : Int32)) hx hb dX0_castles_9 (by decide) ?_
  refine lv_icmp_ne (tgt := 41) hx hb dX0_castles_11 (by decide) (fun cc1 => ?_) (fun cc1 => ?_)
  · replace hf := m_ifF hf cc1
    exact w_X0_castles_41 X hret hf hM (lv_sub hl [] rfl)
  · replace hf := m_ifT hf cc1
    refine lv_iload_n hx hb dX0_castles_14 rfl (lv_at hl 1 rfl) ?_
    refine lv_iconst (v := (3 : Int32)) hx hb dX0_castles_15 (by decide) ?_
    refine lv_ishr hx hb dX0_castles_16 ?_
    obtain ⟨v4, ev, hf⟩ := m_bndE hf
    refine m_top ev ?_
    clear ev
    refine lv_iload_n hx hb dX0_castles_17 rfl (lv_at hl 2 rfl) ?_
    refine lv_iconst (v := (3 : Int32)) hx hb dX0_castles_18 (by decide) ?_
    refine lv_ishr hx hb dX0_castles_19 ?_
    obtain ⟨v5, ev, hf⟩ := m_bndE hf
    refine m_top ev ?_
    clear ev
    refine lv_icmp_ne (tgt := 41) hx hb dX0_castles_20 (by decide) (fun cc1 => ?_) (fun cc1 => ?_)
    · replace hf := m_ifF hf cc1
      exact w_X0_castles_41 X hret hf hM (lv_sub hl [] rfl)
    · replace hf := m_ifT hf cc1
      refine lv_iload_n hx hb dX0_castles_23 rfl (lv_at hl 2 rfl) ?_
      refine lv_iload_n hx hb dX0_castles_24 rfl (lv_at hl 1 rfl) ?_
      refine lv_iconst (v := (2 : Int32)) hx hb dX0_castles_25 (by decide) ?_
      refine lv_iadd hx hb dX0_castles_26 ?_
      obtain ⟨v6, ev, hf⟩ := m_bndE hf
      refine m_top ev ?_
      clear ev
      refine lv_icmp_eq (tgt := 37) hx hb dX0_castles_27 (by decide) (fun cc1 => ?_) (fun cc1 => ?_)
      · replace hf := m_ifT hf cc1
        exact w_X0_castles_37 X hret hf hM (lv_sub hl [] rfl)
      · replace hf := m_ifF hf cc1
        refine lv_iload_n hx hb dX0_castles_30 rfl (lv_at hl 2 rfl) ?_
        refine lv_iload_n hx hb dX0_castles_31 rfl (lv_at hl 1 rfl) ?_
        refine lv_iconst (v := (2 : Int32)) hx hb dX0_castles_32 (by decide) ?_
        refine lv_isub hx hb dX0_castles_33 ?_
        obtain ⟨v7, ev, hf⟩ := m_bndE hf
        refine m_top ev ?_
        clear ev
        refine lv_icmp_ne (tgt := 41) hx hb dX0_castles_34 (by decide) (fun cc1 => ?_) (fun cc1 => ?_)
        · replace hf := m_ifF hf cc1
          exact w_X0_castles_41 X hret hf hM (lv_sub hl [] rfl)
        · replace hf := m_ifT hf cc1
          exact w_X0_castles_37 X hret hf hM (lv_sub hl [] rfl)
def f_X0_castles (x0 : Nat) (x1 : Int32) (x2 : Int32) (S : ZS) : Option (Int32 × ZS) := f_X0_castles_0 x0 x1 x2 S
theorem c_X0_castles {l : Launch} {D : va_G} {y : Nat → ClassId} {x0 : Nat} {x1 : Int32} {x2 : Int32} {S : ZS} {o : Int32 × ZS} (hf : f_X0_castles x0 x1 x2 S = some o) : zMi l yX0_castles wsX0_castles ({ frames := 0, cells := 0, slots := 0, locals := 0 } : Room) [.ref (zh y x0), .int x1, .int x2] D y S o :=
  z_entryI (own := RX0) (cc := cX0_castles) (maxL := 3) (by decide) rfl rfl (Nat.le_of_ble_eq_true rfl) (fun p e s m args below meth c A0 Q H locs ls X hret hM hl => w_X0_castles_0 X hret hf hM (lv_sub hl [0, 1, 2] rfl))
theorem hd_X0_castlingIsOpen : yX0_castlingIsOpen.cls = RX0 ∧ yX0_castlingIsOpen.cls ≠ "java/lang/invoke/MethodHandle" ∧ yX0_castlingIsOpen.cls ≠ "java/lang/invoke/VarHandle" ∧ (parseMethodDescriptor yX0_castlingIsOpen.desc).map (fun d => d.parameters.length) = some 2 := by decide +kernel
theorem fl_X0_castlingIsOpen_0_0 : Cond.fieldLink RX0 9 "MoveTexts$Board" "men" "[I" ∈ wsX0_castlingIsOpen := by decide +kernel
theorem fl_X0_castlingIsOpen_0_3 : Cond.fieldLink RX0 22 "MoveTexts$Board" "side" "I" ∈ wsX0_castlingIsOpen := by decide +kernel
theorem fl_X0_castlingIsOpen_0_4 : Cond.fieldLink RX0 25 "MoveTexts$Board" "rights" "I" ∈ wsX0_castlingIsOpen := by decide +kernel
theorem hw_X0_castlingIsOpen_0 : ∀ w ∈ wsX00, w ∈ wsX0_castlingIsOpen := by decide +kernel
def f_X0_castlingIsOpen_50 (S : ZS) : Option (Int32 × ZS) :=
  m_chk (vp_nar .boolean (0 : Int32) = (0 : Int32)) (some ((0 : Int32), S))

set_option maxRecDepth 100000 in
set_option maxHeartbeats 4000000 in
theorem w_X0_castlingIsOpen_50 {p : Program} {l : Launch} {e : Env} {s : State} {m : MethodId} {args : Array Value} {below : List Frame} {meth : Method} {c : Code} {Q : State → Prop} {D : va_G} {y : Nat → ClassId} {A0 : Nat → Prop} {o : Int32 × ZS} (X : CallFix p m c cX0_castlingIsOpen 4 s args wsX0_castlingIsOpen RX0) (hret : zRi p l e ({ frames := 0, cells := 0, slots := 0, locals := 0 } : Room) s m args below meth c Q cX0_castlingIsOpen D y A0 .boolean o) {S : ZS} {H : Heap} {locs : List Loc} {ls : Array Slot} (hf : f_X0_castlingIsOpen_50  S = some o) (hM : zH D y A0 s H locs S) (hl : lv_has ls 4 []) : W p l e ({ frames := 0, cells := 0, slots := 0, locals := 0 } : Room) s m args below meth c H locs 0 0 Q (F0 m 50 ls []) := by
  obtain ⟨hx, hb, hml, hown, hts⟩ := id X
  unfold f_X0_castlingIsOpen_50 at hf
  refine lv_iconst (v := (0 : Int32)) hx hb dX0_castlingIsOpen_50 (by decide) ?_
  obtain ⟨cd, hf⟩ := m_chkE hf
  cases hf
  exact hret H locs _ ls hM (m_nb cd) dX0_castlingIsOpen_51
def f_X0_castlingIsOpen_123 (t0 : Int32) (S : ZS) : Option (Int32 × ZS) :=
  m_chk (vp_nar .boolean t0 = t0) (some (t0, S))

set_option maxRecDepth 100000 in
set_option maxHeartbeats 4000000 in
theorem w_X0_castlingIsOpen_123 {p : Program} {l : Launch} {e : Env} {s : State} {m : MethodId} {args : Array Value} {below : List Frame} {meth : Method} {c : Code} {Q : State → Prop} {D : va_G} {y : Nat → ClassId} {A0 : Nat → Prop} {o : Int32 × ZS} (X : CallFix p m c cX0_castlingIsOpen 4 s args wsX0_castlingIsOpen RX0) (hret : zRi p l e ({ frames := 0, cells := 0, slots := 0, locals := 0 } : Room) s m args below meth c Q cX0_castlingIsOpen D y A0 .boolean o) {t0 : Int32} {S : ZS} {H : Heap} {locs : List Loc} {ls : Array Slot} (hf : f_X0_castlingIsOpen_123 t0 S = some o) (hM : zH D y A0 s H locs S) (hl : lv_has ls 4 []) : W p l e ({ frames := 0, cells := 0, slots := 0, locals := 0 } : Room) s m args below meth c H locs 0 0 Q (F0 m 123 ls [.int t0]) := by
  obtain ⟨hx, hb, hml, hown, hts⟩ := id X
  unfold f_X0_castlingIsOpen_123 at hf
  obtain ⟨cd, hf⟩ := m_chkE hf
  cases hf
  exact hret H locs _ ls hM (m_nb cd) dX0_castlingIsOpen_123
def f_X0_castlingIsOpen_122 (S : ZS) : Option (Int32 × ZS) :=
  f_X0_castlingIsOpen_123 (0 : Int32) S

set_option maxRecDepth 100000 in
set_option maxHeartbeats 4000000 in
theorem w_X0_castlingIsOpen_122 {p : Program} {l : Launch} {e : Env} {s : State} {m : MethodId} {args : Array Value} {below : List Frame} {meth : Method} {c : Code} {Q : State → Prop} {D : va_G} {y : Nat → ClassId} {A0 : Nat → Prop} {o : Int32 × ZS} (X : CallFix p m c cX0_castlingIsOpen 4 s args wsX0_castlingIsOpen RX0) (hret : zRi p l e ({ frames := 0, cells := 0, slots := 0, locals := 0 } : Room) s m args below meth c Q cX0_castlingIsOpen D y A0 .boolean o) {S : ZS} {H : Heap} {locs : List Loc} {ls : Array Slot} (hf : f_X0_castlingIsOpen_122  S = some o) (hM : zH D y A0 s H locs S) (hl : lv_has ls 4 []) : W p l e ({ frames := 0, cells := 0, slots := 0, locals := 0 } : Room) s m args below meth c H locs 0 0 Q (F0 m 122 ls []) := by
  obtain ⟨hx, hb, hml, hown, hts⟩ := id X
  unfold f_X0_castlingIsOpen_122 at hf
  refine lv_iconst (v := (0 : Int32)) hx hb dX0_castlingIsOpen_122 (by decide) ?_
  exact w_X0_castlingIsOpen_123 (t0 := (0 : Int32)) X hret hf hM (lv_sub hl [] rfl)
def f_X0_castlingIsOpen_84 (t0 : Int32) (S : ZS) : Option (Int32 × ZS) :=
  m_chk (vp_nar .boolean t0 = t0) (some (t0, S))

set_option maxRecDepth 100000 in
set_option maxHeartbeats 4000000 in
theorem w_X0_castlingIsOpen_84 {p : Program} {l : Launch} {e : Env} {s : State} {m : MethodId} {args : Array Value} {below : List Frame} {meth : Method} {c : Code} {Q : State → Prop} {D : va_G} {y : Nat → ClassId} {A0 : Nat → Prop} {o : Int32 × ZS} (X : CallFix p m c cX0_castlingIsOpen 4 s args wsX0_castlingIsOpen RX0) (hret : zRi p l e ({ frames := 0, cells := 0, slots := 0, locals := 0 } : Room) s m args below meth c Q cX0_castlingIsOpen D y A0 .boolean o) {t0 : Int32} {S : ZS} {H : Heap} {locs : List Loc} {ls : Array Slot} (hf : f_X0_castlingIsOpen_84 t0 S = some o) (hM : zH D y A0 s H locs S) (hl : lv_has ls 4 []) : W p l e ({ frames := 0, cells := 0, slots := 0, locals := 0 } : Room) s m args below meth c H locs 0 0 Q (F0 m 84 ls [.int t0]) := by
  obtain ⟨hx, hb, hml, hown, hts⟩ := id X
  unfold f_X0_castlingIsOpen_84 at hf
  obtain ⟨cd, hf⟩ := m_chkE hf
  cases hf
  exact hret H locs _ ls hM (m_nb cd) dX0_castlingIsOpen_84
def f_X0_castlingIsOpen_83 (S : ZS) : Option (Int32 × ZS) :=
  f_X0_castlingIsOpen_84 (0 : Int32) S

set_option maxRecDepth 100000 in
set_option maxHeartbeats 4000000 in
theorem w_X0_castlingIsOpen_83 {p : Program} {l : Launch} {e : Env} {s : State} {m : MethodId} {args : Array Value} {below : List Frame} {meth : Method} {c : Code} {Q : State → Prop} {D : va_G} {y : Nat → ClassId} {A0 : Nat → Prop} {o : Int32 × ZS} (X : CallFix p m c cX0_castlingIsOpen 4 s args wsX0_castlingIsOpen RX0) (hret : zRi p l e ({ frames := 0, cells := 0, slots := 0, locals := 0 } : Room) s m args below meth c Q cX0_castlingIsOpen D y A0 .boolean o) {S : ZS} {H : Heap} {locs : List Loc} {ls : Array Slot} (hf : f_X0_castlingIsOpen_83  S = some o) (hM : zH D y A0 s H locs S) (hl : lv_has ls 4 []) : W p l e ({ frames := 0, cells := 0, slots := 0, locals := 0 } : Room) s m args below meth c H locs 0 0 Q (F0 m 83 ls []) := by
  obtain ⟨hx, hb, hml, hown, hts⟩ := id X
  unfold f_X0_castlingIsOpen_83 at hf
  refine lv_iconst (v := (0 : Int32)) hx hb dX0_castlingIsOpen_83 (by decide) ?_
  exact w_X0_castlingIsOpen_84 (t0 := (0 : Int32)) X hret hf hM (lv_sub hl [] rfl)
def f_X0_castlingIsOpen_38 (x0 : Nat) (x1 : Int32) (x2 : Int32) (x3 : Int32) (t0 : Int32) (t1 : Int32) (S : ZS) : Option (Int32 × ZS) :=
  m_if (t1 = t0) (
  m_chk (zK S x0 = 0) (
  m_bnd ((zI S 4 x0) &&& x3) (fun v1 =>
  m_if (v1 = 0) (
  f_X0_castlingIsOpen_50  S
  ) (
  m_if (x2 ≤ x1) (
  m_chk (zK S x0 = 0) (
  m_cal (zP S 0 x0) (fun b2 =>
  m_bnd (x1 - (1 : Int32)) (fun v3 =>
  m_chk (zK S b2 = 14) (
  m_chk (¬ (v3 < 0 ∨ zN S b2 ≤ (v3).toNatClampNeg)) (
  m_bnd (zA S b2 (v3).toNatClampNeg) (fun v4 =>
  m_if (v4 = 0) (
  m_chk (zK S x0 = 0) (
  m_cal (zP S 0 x0) (fun b5 =>
  m_bnd (x1 - (2 : Int32)) (fun v6 =>
  m_chk (zK S b5 = 14) (
  m_chk (¬ (v6 < 0 ∨ zN S b5 ≤ (v6).toNatClampNeg)) (
  m_bnd (zA S b5 (v6).toNatClampNeg) (fun v7 =>
  m_if (v7 = 0) (
  m_chk (zK S x0 = 0) (
  m_cal (zP S 0 x0) (fun b8 =>
  m_bnd (x1 - (3 : Int32)) (fun v9 =>
  m_chk (zK S b8 = 14) (
  m_chk (¬ (v9 < 0 ∨ zN S b8 ≤ (v9).toNatClampNeg)) (
  m_bnd (zA S b8 (v9).toNatClampNeg) (fun v10 =>
  m_if (v10 = 0) (
  f_X0_castlingIsOpen_123 (1 : Int32) S
  ) (
  f_X0_castlingIsOpen_122  S
  )))))))
  ) (
  f_X0_castlingIsOpen_122  S
  )))))))
  ) (
  f_X0_castlingIsOpen_122  S
  )))))))
  ) (
  m_chk (zK S x0 = 0) (
  m_cal (zP S 0 x0) (fun b11 =>
  m_bnd (x1 + (1 : Int32)) (fun v12 =>
  m_chk (zK S b11 = 14) (
  m_chk (¬ (v12 < 0 ∨ zN S b11 ≤ (v12).toNatClampNeg)) (
  m_bnd (zA S b11 (v12).toNatClampNeg) (fun v13 =>
  m_if (v13 = 0) (
  m_chk (zK S x0 = 0) (
  m_cal (zP S 0 x0) (fun b14 =>
  m_bnd (x1 + (2 : Int32)) (fun v15 =>
  m_chk (zK S b14 = 14) (
  m_chk (¬ (v15 < 0 ∨ zN S b14 ≤ (v15).toNatClampNeg)) (
  m_bnd (zA S b14 (v15).toNatClampNeg) (fun v16 =>
  m_if (v16 = 0) (
  f_X0_castlingIsOpen_84 (1 : Int32) S
  ) (
  f_X0_castlingIsOpen_83  S
  )))))))
  ) (
  f_X0_castlingIsOpen_83  S
  )))))))
  )
  )))
  ) (
  f_X0_castlingIsOpen_50  S
  )

set_option maxRecDepth 100000 in
set_option maxHeartbeats 4000000 in
theorem w_X0_castlingIsOpen_38 {p : Program} {l : Launch} {e : Env} {s : State} {m : MethodId} {args : Array Value} {below : List Frame} {meth : Method} {c : Code} {Q : State → Prop} {D : va_G} {y : Nat → ClassId} {A0 : Nat → Prop} {o : Int32 × ZS} (X : CallFix p m c cX0_castlingIsOpen 4 s args wsX0_castlingIsOpen RX0) (hret : zRi p l e ({ frames := 0, cells := 0, slots := 0, locals := 0 } : Room) s m args below meth c Q cX0_castlingIsOpen D y A0 .boolean o) {x0 : Nat} {x1 : Int32} {x2 : Int32} {x3 : Int32} {t0 : Int32} {t1 : Int32} {S : ZS} {H : Heap} {locs : List Loc} {ls : Array Slot} (hf : f_X0_castlingIsOpen_38 x0 x1 x2 x3 t0 t1 S = some o) (hM : zH D y A0 s H locs S) (hl : lv_has ls 4 [(0, .ref (zh y x0)), (1, .int x1), (2, .int x2), (3, .int x3)]) : W p l e ({ frames := 0, cells := 0, slots := 0, locals := 0 } : Room) s m args below meth c H locs 0 0 Q (F0 m 38 ls [.int t0, .int t1]) := by
  obtain ⟨hx, hb, hml, hown, hts⟩ := id X
  unfold f_X0_castlingIsOpen_38 at hf
  refine lv_icmp_ne (tgt := 50) hx hb dX0_castlingIsOpen_38 (by decide) (fun cc1 => ?_) (fun cc1 => ?_)
  · replace hf := m_ifF hf cc1
    exact w_X0_castlingIsOpen_50 X hret hf hM (lv_sub hl [] rfl)
  · replace hf := m_ifT hf cc1
    refine lv_aload_n hx hb dX0_castlingIsOpen_41 rfl (lv_at hl 0 rfl) ?_
    obtain ⟨ca, hf⟩ := m_chkE hf
    replace ca := z_in hM (by decide) ca
    refine z_get (k := 0) (j := 4) (C := RX0) (T := TX0) (N := 7) (fl := zf_0) (v := .int (zI S 4 x0)) X hw_X0_castlingIsOpen_0 hM rfl zc_0 ca (by decide) fl_X0_castlingIsOpen_0_4 rfl dX0_castlingIsOpen_42 ?_
    clear ca
    refine lv_iload_n hx hb dX0_castlingIsOpen_45 rfl (lv_at hl 3 rfl) ?_
    refine lv_iand hx hb dX0_castlingIsOpen_46 ?_
    obtain ⟨v1, ev, hf⟩ := m_bndE hf
    refine m_top ev ?_
    clear ev
    refine lv_if_ne (tgt := 52) hx hb dX0_castlingIsOpen_47 (by decide) (fun cc1 => ?_) (fun cc1 => ?_)
    · replace hf := m_ifF hf cc1
      refine lv_iload_n hx hb dX0_castlingIsOpen_52 rfl (lv_at hl 2 rfl) ?_
      refine lv_iload_n hx hb dX0_castlingIsOpen_53 rfl (lv_at hl 1 rfl) ?_
      refine lv_icmp_le (tgt := 85) hx hb dX0_castlingIsOpen_54 (by decide) (fun cc1 => ?_) (fun cc1 => ?_)
      · replace hf := m_ifT hf cc1
        refine lv_aload_n hx hb dX0_castlingIsOpen_85 rfl (lv_at hl 0 rfl) ?_
        obtain ⟨ca, hf⟩ := m_chkE hf
        replace ca := z_in hM (by decide) ca
        refine z_get (k := 0) (j := 0) (C := RX0) (T := TX0) (N := 7) (fl := zf_0) (v := va_rf ((zP S 0 x0).map (zh y))) X hw_X0_castlingIsOpen_0 hM rfl zc_0 ca (by decide) fl_X0_castlingIsOpen_0_0 rfl dX0_castlingIsOpen_86 ?_
        clear ca
        obtain ⟨b2, hb9, hf⟩ := m_calE hf
        refine z_topr hb9 ?_
        clear hb9
        refine lv_iload_n hx hb dX0_castlingIsOpen_89 rfl (lv_at hl 1 rfl) ?_
        refine lv_iconst (v := (1 : Int32)) hx hb dX0_castlingIsOpen_90 (by decide) ?_
        refine lv_isub hx hb dX0_castlingIsOpen_91 ?_
        obtain ⟨v3, ev, hf⟩ := m_bndE hf
        refine m_top ev ?_
        clear ev
        obtain ⟨ca, hf⟩ := m_chkE hf
        replace ca := z_in hM (by decide) ca
        obtain ⟨cd, hf⟩ := m_chkE hf
        refine z_iald X hM ca cd dX0_castlingIsOpen_92 ?_
        clear ca cd
        obtain ⟨v4, ev, hf⟩ := m_bndE hf
        refine m_top ev ?_
        clear ev
        refine lv_if_ne (tgt := 122) hx hb dX0_castlingIsOpen_93 (by decide) (fun cc1 => ?_) (fun cc1 => ?_)
        · replace hf := m_ifF hf cc1
          exact w_X0_castlingIsOpen_122 X hret hf hM (lv_sub hl [] rfl)
        · replace hf := m_ifT hf cc1
          refine lv_aload_n hx hb dX0_castlingIsOpen_96 rfl (lv_at hl 0 rfl) ?_
          obtain ⟨ca, hf⟩ := m_chkE hf
          replace ca := z_in hM (by decide) ca
          refine z_get (k := 0) (j := 0) (C := RX0) (T := TX0) (N := 7) (fl := zf_0) (v := va_rf ((zP S 0 x0).map (zh y))) X hw_X0_castlingIsOpen_0 hM rfl zc_0 ca (by decide) fl_X0_castlingIsOpen_0_0 rfl dX0_castlingIsOpen_97 ?_
          clear ca
          obtain ⟨b5, hb9, hf⟩ := m_calE hf
          refine z_topr hb9 ?_
          clear hb9
          refine lv_iload_n hx hb dX0_castlingIsOpen_100 rfl (lv_at hl 1 rfl) ?_
          refine lv_iconst (v := (2 : Int32)) hx hb dX0_castlingIsOpen_101 (by decide) ?_
          refine lv_isub hx hb dX0_castlingIsOpen_102 ?_
          obtain ⟨v6, ev, hf⟩ := m_bndE hf
          refine m_top ev ?_
          clear ev
          obtain ⟨ca, hf⟩ := m_chkE hf
          replace ca := z_in hM (by decide) ca
          obtain ⟨cd, hf⟩ := m_chkE hf
          refine z_iald X hM ca cd dX0_castlingIsOpen_103 ?_
          clear ca cd
          obtain ⟨v7, ev, hf⟩ := m_bndE hf
          refine m_top ev ?_
          clear ev
          refine lv_if_ne (tgt := 122) hx hb dX0_castlingIsOpen_104 (by decide) (fun cc1 => ?_) (fun cc1 => ?_)
          · replace hf := m_ifF hf cc1
            exact w_X0_castlingIsOpen_122 X hret hf hM (lv_sub hl [] rfl)
          · replace hf := m_ifT hf cc1
            refine lv_aload_n hx hb dX0_castlingIsOpen_107 rfl (lv_at hl 0 rfl) ?_
            obtain ⟨ca, hf⟩ := m_chkE hf
            replace ca := z_in hM (by decide) ca
            refine z_get (k := 0) (j := 0) (C := RX0) (T := TX0) (N := 7) (fl := zf_0) (v := va_rf ((zP S 0 x0).map (zh y))) X hw_X0_castlingIsOpen_0 hM rfl zc_0 ca (by decide) fl_X0_castlingIsOpen_0_0 rfl dX0_castlingIsOpen_108 ?_
            clear ca
            obtain ⟨b8, hb9, hf⟩ := m_calE hf
            refine z_topr hb9 ?_
            clear hb9
            refine lv_iload_n hx hb dX0_castlingIsOpen_111 rfl (lv_at hl 1 rfl) ?_
            refine lv_iconst (v := (3 : Int32)) hx hb dX0_castlingIsOpen_112 (by decide) ?_
            refine lv_isub hx hb dX0_castlingIsOpen_113 ?_
            obtain ⟨v9, ev, hf⟩ := m_bndE hf
            refine m_top ev ?_
            clear ev
            obtain ⟨ca, hf⟩ := m_chkE hf
            replace ca := z_in hM (by decide) ca
            obtain ⟨cd, hf⟩ := m_chkE hf
            refine z_iald X hM ca cd dX0_castlingIsOpen_114 ?_
            clear ca cd
            obtain ⟨v10, ev, hf⟩ := m_bndE hf
            refine m_top ev ?_
            clear ev
            refine lv_if_ne (tgt := 122) hx hb dX0_castlingIsOpen_115 (by decide) (fun cc1 => ?_) (fun cc1 => ?_)
            · replace hf := m_ifF hf cc1
              exact w_X0_castlingIsOpen_122 X hret hf hM (lv_sub hl [] rfl)
            · replace hf := m_ifT hf cc1
              refine lv_iconst (v := (1 : Int32)) hx hb dX0_castlingIsOpen_118 (by decide) ?_
              refine lv_goto (tgt := 123) hx hb dX0_castlingIsOpen_119 (by decide) ?_
              exact w_X0_castlingIsOpen_123 (t0 := (1 : Int32)) X hret hf hM (lv_sub hl [] rfl)
      · replace hf := m_ifF hf cc1
        refine lv_aload_n hx hb dX0_castlingIsOpen_57 rfl (lv_at hl 0 rfl) ?_
        obtain ⟨ca, hf⟩ := m_chkE hf
        replace ca := z_in hM (by decide) ca
        refine z_get (k := 0) (j := 0) (C := RX0) (T := TX0) (N := 7) (fl := zf_0) (v := va_rf ((zP S 0 x0).map (zh y))) X hw_X0_castlingIsOpen_0 hM rfl zc_0 ca (by decide) fl_X0_castlingIsOpen_0_0 rfl dX0_castlingIsOpen_58 ?_
        clear ca
        obtain ⟨b11, hb9, hf⟩ := m_calE hf
        refine z_topr hb9 ?_
        clear hb9
        refine lv_iload_n hx hb dX0_castlingIsOpen_61 rfl (lv_at hl 1 rfl) ?_
        refine lv_iconst (v := (1 : Int32)) hx hb dX0_castlingIsOpen_62 (by decide) ?_
        refine lv_iadd hx hb dX0_castlingIsOpen_63 ?_
        obtain ⟨v12, ev, hf⟩ := m_bndE hf
        refine m_top ev ?_
        clear ev
        obtain ⟨ca, hf⟩ := m_chkE hf
        replace ca := z_in hM (by decide) ca
        obtain ⟨cd, hf⟩ := m_chkE hf
        refine z_iald X hM ca cd dX0_castlingIsOpen_64 ?_
        clear ca cd
        obtain ⟨v13, ev, hf⟩ := m_bndE hf
        refine m_top ev ?_
        clear ev
        refine lv_if_ne (tgt := 83) hx hb dX0_castlingIsOpen_65 (by decide) (fun cc1 => ?_) (fun cc1 => ?_)
        · replace hf := m_ifF hf cc1
          exact w_X0_castlingIsOpen_83 X hret hf hM (lv_sub hl [] rfl)
        · replace hf := m_ifT hf cc1
          refine lv_aload_n hx hb dX0_castlingIsOpen_68 rfl (lv_at hl 0 rfl) ?_
          obtain ⟨ca, hf⟩ := m_chkE hf
          replace ca := z_in hM (by decide) ca
          refine z_get (k := 0) (j := 0) (C := RX0) (T := TX0) (N := 7) (fl := zf_0) (v := va_rf ((zP S 0 x0).map (zh y))) X hw_X0_castlingIsOpen_0 hM rfl zc_0 ca (by decide) fl_X0_castlingIsOpen_0_0 rfl dX0_castlingIsOpen_69 ?_
          clear ca
          obtain ⟨b14, hb9, hf⟩ := m_calE hf
          refine z_topr hb9 ?_
          clear hb9
          refine lv_iload_n hx hb dX0_castlingIsOpen_72 rfl (lv_at hl 1 rfl) ?_
          refine lv_iconst (v := (2 : Int32)) hx hb dX0_castlingIsOpen_73 (by decide) ?_
          refine lv_iadd hx hb dX0_castlingIsOpen_74 ?_
          obtain ⟨v15, ev, hf⟩ := m_bndE hf
          refine m_top ev ?_
          clear ev
          obtain ⟨ca, hf⟩ := m_chkE hf
          replace ca := z_in hM (by decide) ca
          obtain ⟨cd, hf⟩ := m_chkE hf
          refine z_iald X hM ca cd dX0_castlingIsOpen_75 ?_
          clear ca cd
          obtain ⟨v16, ev, hf⟩ := m_bndE hf
          refine m_top ev ?_
          clear ev
          refine lv_if_ne (tgt := 83) hx hb dX0_castlingIsOpen_76 (by decide) (fun cc1 => ?_) (fun cc1 => ?_)
          · replace hf := m_ifF hf cc1
            exact w_X0_castlingIsOpen_83 X hret hf hM (lv_sub hl [] rfl)
          · replace hf := m_ifT hf cc1
            refine lv_iconst (v := (1 : Int32)) hx hb dX0_castlingIsOpen_79 (by decide) ?_
            refine lv_goto (tgt := 84) hx hb dX0_castlingIsOpen_80 (by decide) ?_
            exact w_X0_castlingIsOpen_84 (t0 := (1 : Int32)) X hret hf hM (lv_sub hl [] rfl)
    · replace hf := m_ifT hf cc1
      exact w_X0_castlingIsOpen_50 X hret hf hM (lv_sub hl [] rfl)
def f_X0_castlingIsOpen_22 (x0 : Nat) (x1 : Int32) (x2 : Int32) (t0 : Int32) (t1 : Int32) (S : ZS) : Option (Int32 × ZS) :=
  m_bnd (t1 <<< (t0 &&& 31)) (fun v1 =>
  m_chk (zK S x0 = 0) (
  m_if ((zI S 3 x0) = 0) (
  f_X0_castlingIsOpen_38 x0 x1 x2 v1 (4 : Int32) x1 S
  ) (
  f_X0_castlingIsOpen_38 x0 x1 x2 v1 (60 : Int32) x1 S
  )))

set_option maxRecDepth 100000 in
set_option maxHeartbeats 4000000 in
theorem w_X0_castlingIsOpen_22 {p : Program} {l : Launch} {e : Env} {s : State} {m : MethodId} {args : Array Value} {below : List Frame} {meth : Method} {c : Code} {Q : State → Prop} {D : va_G} {y : Nat → ClassId} {A0 : Nat → Prop} {o : Int32 × ZS} (X : CallFix p m c cX0_castlingIsOpen 4 s args wsX0_castlingIsOpen RX0) (hret : zRi p l e ({ frames := 0, cells := 0, slots := 0, locals := 0 } : Room) s m args below meth c Q cX0_castlingIsOpen D y A0 .boolean o) {x0 : Nat} {x1 : Int32} {x2 : Int32} {t0 : Int32} {t1 : Int32} {S : ZS} {H : Heap} {locs : List Loc} {ls : Array Slot} (hf : f_X0_castlingIsOpen_22 x0 x1 x2 t0 t1 S = some o) (hM : zH D y A0 s H locs S) (hl : lv_has ls 4 [(0, .ref (zh y x0)), (1, .int x1), (2, .int x2)]) : W p l e ({ frames := 0, cells := 0, slots := 0, locals := 0 } : Room) s m args below meth c H locs 0 0 Q (F0 m 22 ls [.int t0, .int t1]) := by
  obtain ⟨hx, hb, hml, hown, hts⟩ := id X
  unfold f_X0_castlingIsOpen_22 at hf
  refine lv_ishl hx hb dX0_castlingIsOpen_22 ?_
  obtain ⟨v1, ev, hf⟩ := m_bndE hf
  refine m_top ev ?_
  clear ev
  refine lv_istore_n (lv' := [(3, .int v1), (0, .ref (zh y x0)), (1, .int x1), (2, .int x2)]) hx hb dX0_castlingIsOpen_23 rfl hl (by decide) rfl (fun ls hl => ?_)
  refine lv_iload_n hx hb dX0_castlingIsOpen_24 rfl (lv_at hl 2 rfl) ?_
  refine lv_aload_n hx hb dX0_castlingIsOpen_25 rfl (lv_at hl 1 rfl) ?_
  obtain ⟨ca, hf⟩ := m_chkE hf
  replace ca := z_in hM (by decide) ca
  refine z_get (k := 0) (j := 3) (C := RX0) (T := TX0) (N := 7) (fl := zf_0) (v := .int (zI S 3 x0)) X hw_X0_castlingIsOpen_0 hM rfl zc_0 ca (by decide) fl_X0_castlingIsOpen_0_3 rfl dX0_castlingIsOpen_26 ?_
  clear ca
  refine lv_if_ne (tgt := 36) hx hb dX0_castlingIsOpen_29 (by decide) (fun cc1 => ?_) (fun cc1 => ?_)
  · replace hf := m_ifF hf cc1
    refine lv_bipush (v := (60 : Int32)) hx hb dX0_castlingIsOpen_36 (by decide) ?_
    exact w_X0_castlingIsOpen_38 (x0 := x0) (x1 := x1) (x2 := x2) (x3 := v1) (t0 := (60 : Int32)) (t1 := x1) X hret hf hM (lv_sub hl [1, 2, 3, 0] rfl)
  · replace hf := m_ifT hf cc1
    refine lv_iconst (v := (4 : Int32)) hx hb dX0_castlingIsOpen_32 (by decide) ?_
    refine lv_goto (tgt := 38) hx hb dX0_castlingIsOpen_33 (by decide) ?_
    exact w_X0_castlingIsOpen_38 (x0 := x0) (x1 := x1) (x2 := x2) (x3 := v1) (t0 := (4 : Int32)) (t1 := x1) X hret hf hM (lv_sub hl [1, 2, 3, 0] rfl)
def f_X0_castlingIsOpen_10 (x0 : Nat) (x1 : Int32) (x2 : Int32) (t0 : Int32) (S : ZS) : Option (Int32 × ZS) :=
  m_chk (zK S x0 = 0) (
  m_if ((zI S 3 x0) = 0) (
  f_X0_castlingIsOpen_22 x0 x1 x2 (0 : Int32) t0 S
  ) (
  f_X0_castlingIsOpen_22 x0 x1 x2 (2 : Int32) t0 S
  ))

set_option maxRecDepth 100000 in
set_option maxHeartbeats 4000000 in
theorem w_X0_castlingIsOpen_10 {p : Program} {l : Launch} {e : Env} {s : State} {m : MethodId} {args : Array Value} {below : List Frame} {meth : Method} {c : Code} {Q : State → Prop} {D : va_G} {y : Nat → ClassId} {A0 : Nat → Prop} {o : Int32 × ZS} (X : CallFix p m c cX0_castlingIsOpen 4 s args wsX0_castlingIsOpen RX0) (hret : zRi p l e ({ frames := 0, cells := 0, slots := 0, locals := 0 } : Room) s m args below meth c Q cX0_castlingIsOpen D y A0 .boolean o) {x0 : Nat} {x1 : Int32} {x2 : Int32} {t0 : Int32} {S : ZS} {H : Heap} {locs : List Loc} {ls : Array Slot} (hf : f_X0_castlingIsOpen_10 x0 x1 x2 t0 S = some o) (hM : zH D y A0 s H locs S) (hl : lv_has ls 4 [(0, .ref (zh y x0)), (1, .int x1), (2, .int x2)]) : W p l e ({ frames := 0, cells := 0, slots := 0, locals := 0 } : Room) s m args below meth c H locs 0 0 Q (F0 m 10 ls [.int t0]) := by
  obtain ⟨hx, hb, hml, hown, hts⟩ := id X
  unfold f_X0_castlingIsOpen_10 at hf
  refine lv_aload_n hx hb dX0_castlingIsOpen_10 rfl (lv_at hl 0 rfl) ?_
  obtain ⟨ca, hf⟩ := m_chkE hf
  replace ca := z_in hM (by decide) ca
  refine z_get (k := 0) (j := 3) (C := RX0) (T := TX0) (N := 7) (fl := zf_0) (v := .int (zI S 3 x0)) X hw_X0_castlingIsOpen_0 hM rfl zc_0 ca (by decide) fl_X0_castlingIsOpen_0_3 rfl dX0_castlingIsOpen_11 ?_
  clear ca
  refine lv_if_ne (tgt := 21) hx hb dX0_castlingIsOpen_14 (by decide) (fun cc1 => ?_) (fun cc1 => ?_)
  · replace hf := m_ifF hf cc1
    refine lv_iconst (v := (2 : Int32)) hx hb dX0_castlingIsOpen_21 (by decide) ?_
    exact w_X0_castlingIsOpen_22 (x0 := x0) (x1 := x1) (x2 := x2) (t0 := (2 : Int32)) (t1 := t0) X hret hf hM (lv_sub hl [0, 1, 2] rfl)
  · replace hf := m_ifT hf cc1
    refine lv_iconst (v := (0 : Int32)) hx hb dX0_castlingIsOpen_17 (by decide) ?_
    refine lv_goto (tgt := 22) hx hb dX0_castlingIsOpen_18 (by decide) ?_
    exact w_X0_castlingIsOpen_22 (x0 := x0) (x1 := x1) (x2 := x2) (t0 := (0 : Int32)) (t1 := t0) X hret hf hM (lv_sub hl [0, 1, 2] rfl)
def f_X0_castlingIsOpen_0 (x0 : Nat) (x1 : Int32) (x2 : Int32) (S : ZS) : Option (Int32 × ZS) :=
  m_if (x2 ≤ x1) (
  f_X0_castlingIsOpen_10 x0 x1 x2 (2 : Int32) S
  ) (
  f_X0_castlingIsOpen_10 x0 x1 x2 (1 : Int32) S
  )

set_option maxRecDepth 100000 in
set_option maxHeartbeats 4000000 in
theorem w_X0_castlingIsOpen_0 {p : Program} {l : Launch} {e : Env} {s : State} {m : MethodId} {args : Array Value} {below : List Frame} {meth : Method} {c : Code} {Q : State → Prop} {D : va_G} {y : Nat → ClassId} {A0 : Nat → Prop} {o : Int32 × ZS} (X : CallFix p m c cX0_castlingIsOpen 4 s args wsX0_castlingIsOpen RX0) (hret : zRi p l e ({ frames := 0, cells := 0, slots := 0, locals := 0 } : Room) s m args below meth c Q cX0_castlingIsOpen D y A0 .boolean o) {x0 : Nat} {x1 : Int32} {x2 : Int32} {S : ZS} {H : Heap} {locs : List Loc} {ls : Array Slot} (hf : f_X0_castlingIsOpen_0 x0 x1 x2 S = some o) (hM : zH D y A0 s H locs S) (hl : lv_has ls 4 [(0, .ref (zh y x0)), (1, .int x1), (2, .int x2)]) : W p l e ({ frames := 0, cells := 0, slots := 0, locals := 0 } : Room) s m args below meth c H locs 0 0 Q (F0 m 0 ls []) := by
  obtain ⟨hx, hb, hml, hown, hts⟩ := id X
  unfold f_X0_castlingIsOpen_0 at hf
  refine lv_iload_n hx hb dX0_castlingIsOpen_0 rfl (lv_at hl 2 rfl) ?_
  refine lv_iload_n hx hb dX0_castlingIsOpen_1 rfl (lv_at hl 1 rfl) ?_
  refine lv_icmp_le (tgt := 9) hx hb dX0_castlingIsOpen_2 (by decide) (fun cc1 => ?_) (fun cc1 => ?_)
  · replace hf := m_ifT hf cc1
    refine lv_iconst (v := (2 : Int32)) hx hb dX0_castlingIsOpen_9 (by decide) ?_
    exact w_X0_castlingIsOpen_10 (x0 := x0) (x1 := x1) (x2 := x2) (t0 := (2 : Int32)) X hret hf hM (lv_sub hl [0, 1, 2] rfl)
  · replace hf := m_ifF hf cc1
    refine lv_iconst (v := (1 : Int32)) hx hb dX0_castlingIsOpen_5 (by decide) ?_
    refine lv_goto (tgt := 10) hx hb dX0_castlingIsOpen_6 (by decide) ?_
    exact w_X0_castlingIsOpen_10 (x0 := x0) (x1 := x1) (x2 := x2) (t0 := (1 : Int32)) X hret hf hM (lv_sub hl [0, 1, 2] rfl)
def f_X0_castlingIsOpen (x0 : Nat) (x1 : Int32) (x2 : Int32) (S : ZS) : Option (Int32 × ZS) := f_X0_castlingIsOpen_0 x0 x1 x2 S
theorem c_X0_castlingIsOpen {l : Launch} {D : va_G} {y : Nat → ClassId} {x0 : Nat} {x1 : Int32} {x2 : Int32} {S : ZS} {o : Int32 × ZS} (hf : f_X0_castlingIsOpen x0 x1 x2 S = some o) : zMi l yX0_castlingIsOpen wsX0_castlingIsOpen ({ frames := 0, cells := 0, slots := 0, locals := 0 } : Room) [.ref (zh y x0), .int x1, .int x2] D y S o :=
  z_entryI (own := RX0) (cc := cX0_castlingIsOpen) (maxL := 4) (by decide) rfl rfl (Nat.le_of_ble_eq_true rfl) (fun p e s m args below meth c A0 Q H locs ls X hret hM hl => w_X0_castlingIsOpen_0 X hret hf hM (lv_sub hl [0, 1, 2] rfl))
