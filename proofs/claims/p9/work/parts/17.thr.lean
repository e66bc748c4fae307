theorem xh_1 : ∀ w ∈ (vx_atS RX11 148 (xN 1) xNs).filter (fun w => !goodWord w), w ∈ [Cond.castable (xN 1) (xN 1), Cond.declares (Bundle.initS "java/lang/RuntimeException"), Cond.declares (Bundle.initS "java/lang/Exception"), Cond.declares (Bundle.initS Bundle.tN)] := by decide +kernel
theorem xg_1 : ∀ w ∈ Cond.classLink RX11 144 (xN 1) :: Cond.initialized (xN 1) :: vx_atS RX11 148 (xN 1) xNs, vx_ot w = true := by decide +kernel
theorem xh_2 : ∀ w ∈ (vx_atS RX11 169 (xN 2) xNs).filter (fun w => !goodWord w), w ∈ [Cond.castable (xN 2) (xN 2), Cond.declares (Bundle.initS "java/lang/RuntimeException"), Cond.declares (Bundle.initS "java/lang/Exception"), Cond.declares (Bundle.initS Bundle.tN)] := by decide +kernel
theorem xg_2 : ∀ w ∈ Cond.classLink RX11 165 (xN 2) :: Cond.initialized (xN 2) :: vx_atS RX11 169 (xN 2) xNs, vx_ot w = true := by decide +kernel
theorem xh_3 : ∀ w ∈ (vx_atS RX11 216 (xN 3) xNs).filter (fun w => !goodWord w), w ∈ [Cond.castable (xN 3) (xN 3), Cond.declares (Bundle.initS "java/lang/RuntimeException"), Cond.declares (Bundle.initS "java/lang/Exception"), Cond.declares (Bundle.initS Bundle.tN)] := by decide +kernel
theorem xg_3 : ∀ w ∈ Cond.classLink RX11 212 (xN 3) :: Cond.initialized (xN 3) :: vx_atS RX11 216 (xN 3) xNs, vx_ot w = true := by decide +kernel
theorem xh_4 : ∀ w ∈ (vx_atS RX11 229 (xN 4) xNs).filter (fun w => !goodWord w), w ∈ [Cond.castable (xN 4) (xN 4), Cond.declares (Bundle.initS "java/lang/RuntimeException"), Cond.declares (Bundle.initS "java/lang/Exception"), Cond.declares (Bundle.initS Bundle.tN)] := by decide +kernel
theorem xg_4 : ∀ w ∈ Cond.classLink RX11 225 (xN 4) :: Cond.initialized (xN 4) :: vx_atS RX11 229 (xN 4) xNs, vx_ot w = true := by decide +kernel
theorem hd_X11_signs : yX11_signs.cls = RX11 ∧ yX11_signs.cls ≠ "java/lang/invoke/MethodHandle" ∧ yX11_signs.cls ≠ "java/lang/invoke/VarHandle" ∧ (parseMethodDescriptor yX11_signs.desc).map (fun d => d.parameters.length) = some 1 := by decide +kernel
theorem fl_X11_signs_11_1 : Cond.fieldLink RX11 16 "MoveTexts" "out" "LMoveTexts$Row;" ∈ wsX11_signs := by decide +kernel
theorem fl_X11_signs_11_2 : Cond.fieldLink RX11 22 "MoveTexts" "rules" "LMoveTexts$Rules;" ∈ wsX11_signs := by decide +kernel
theorem fl_X11_signs_11_4 : Cond.fieldLink RX11 36 "MoveTexts" "signWriter" "LMoveTexts$SignWriter;" ∈ wsX11_signs := by decide +kernel
theorem fl_X11_signs_11_9 : Cond.fieldLink RX11 68 "MoveTexts" "board" "LMoveTexts$Board;" ∈ wsX11_signs := by decide +kernel
theorem hw_X11_signs_11 : ∀ w ∈ wsX110, w ∈ wsX11_signs := by decide +kernel
theorem sr_X11_signs_146 : (RX11, 146, "not a legal move", 15) ∈ zSR := by decide +kernel
theorem xt_X11_signs_1 : zTx RX11 wsX11_signs 1 144 148 := ⟨by decide +kernel, fun w hw => List.mem_cons_of_mem _ (List.mem_append_right _ hw), xh_1, xg_1⟩
def g_X11_signs_0 (Pw : Int32 → ZS → Prop) (Px : Nat → ZS → Prop) (x0 : Nat) (x1 : Int32) (S : ZS) (C T : Nat) : Prop :=
  m_chkQ (zK S x0 = 11) (
  m_calP (zP S 2 x0) (fun b1 =>
  m_chkQ (zK S x0 = 11) (
  m_calP (zP S 9 x0) (fun b2 =>
  m_chkQ (zK S b1 = 7) (
  m_calP (f_X7_isLegal b1 b2 x1 S) (fun o3 =>
  m_ifQ (o3.1 = 0) (
  m_thrP (C) (T) 1 o3.2 Px
  ) (
  m_chkQ (zK o3.2 x0 = 11) (
  m_calP (zP o3.2 1 x0) (fun b4 =>
  m_chkQ (zK o3.2 b4 = 6) (
  m_calP (f_X6_keep b4 (0 : Int32) o3.2) (fun o5 =>
  m_chkQ (zK o5.2 x0 = 11) (
  m_calP (zP o5.2 4 x0) (fun b6 =>
  m_chkQ (zK o5.2 x0 = 11) (
  m_calP (zP o5.2 9 x0) (fun b7 =>
  m_chkQ (zK o5.2 x0 = 11) (
  m_calP (zP o5.2 1 x0) (fun b8 =>
  m_chkQ (zK o5.2 b6 = 9) (
  m_gal (C) (T) (fun mc ms Pw => g_X9_putSigns b6 b7 x1 b8 o5.2 mc ms Pw) (fun r10 S11 C12 T13 =>
  m_chkQ (zK S11 x0 = 11) (
  m_calP (zP S11 1 x0) (fun b14 =>
  m_chkQ (zK S11 b14 = 6) (
  m_calP (f_X6_size b14 S11) (fun o15 =>
  Pw o15.1 o15.2))))))))))))))))
  )))))))

set_option maxRecDepth 100000 in
set_option maxHeartbeats 4000000 in
theorem w_X11_signs_0 {p : Program} {l : Launch} {e : Env} {s : State} {m : MethodId} {args : Array Value} {below : List Frame} {meth : Method} {c : Code} {Q : State → Prop} {D : va_G} {y : Nat → ClassId} {A0 : Nat → Prop} {kc kt : Nat} {Pw : Int32 → ZS → Prop} {Px : Nat → ZS → Prop} (X : CallFix p m c cX11_signs 2 s args wsX11_signs RX11) (hret : zQi p l e ({ frames := 6, cells := kc, slots := kt, locals := 160 } : Room) s m args below meth c Q cX11_signs D y A0 .int Pw) (hthr : zQx p l e ({ frames := 6, cells := kc, slots := kt, locals := 160 } : Room) s m args below meth c Q cX11_signs D y A0 Px RX11 wsX11_signs) {x0 : Nat} {x1 : Int32} {S : ZS} {C T : Nat} {H : Heap} {locs : List Loc} {ls : Array Slot} (hf : g_X11_signs_0 Pw Px x0 x1 S C T) (hCT : C ≤ kc ∧ T ≤ kt) (hM : zH D y A0 s H locs S) (hl : lv_has ls 2 [(0, .ref (zh y x0)), (1, .int x1)]) : W p l e ({ frames := 6, cells := kc, slots := kt, locals := 160 } : Room) s m args below meth c H locs (kc - C) (kt - T) Q (F0 m 0 ls []) := by
  obtain ⟨hx, hb, hml, hown, hts⟩ := id X
  unfold g_X11_signs_0 at hf
  refine lv_aload_n hx hb dX11_signs_0 rfl (lv_at hl 0 rfl) ?_
  obtain ⟨ca, hf⟩ := m_chkPE hf
  replace ca := z_in hM (by decide) ca
  refine z_get (k := 11) (j := 2) (C := RX11) (T := TX11) (N := 10) (fl := zf_11) (v := va_rf ((zP S 2 x0).map (zh y))) X hw_X11_signs_11 hM rfl zc_11 ca (by decide) fl_X11_signs_11_2 rfl dX11_signs_1 ?_
  clear ca
  obtain ⟨b1, hb9, hf⟩ := m_calPE hf
  refine z_topr hb9 ?_
  clear hb9
  refine lv_aload_n hx hb dX11_signs_4 rfl (lv_at hl 0 rfl) ?_
  obtain ⟨ca, hf⟩ := m_chkPE hf
  replace ca := z_in hM (by decide) ca
  refine z_get (k := 11) (j := 9) (C := RX11) (T := TX11) (N := 10) (fl := zf_11) (v := va_rf ((zP S 9 x0).map (zh y))) X hw_X11_signs_11 hM rfl zc_11 ca (by decide) fl_X11_signs_11_9 rfl dX11_signs_5 ?_
  clear ca
  obtain ⟨b2, hb9, hf⟩ := m_calPE hf
  refine z_topr hb9 ?_
  clear hb9
  refine lv_iload_n hx hb dX11_signs_8 rfl (lv_at hl 1 rfl) ?_
  obtain ⟨ca, hf⟩ := m_chkPE hf
  replace ca := z_in hM (by decide) ca
  obtain ⟨o3, ho, hf⟩ := m_calPE hf
  refine z_gcallVi (k := 7) (C := RX7) (T := TX7) (N := 2) (fl := zf_7) X hM rfl zc_7 ca (c_X7_isLegal ho) gX11_signs_X7_isLegal rfl ⟨rfl, rfl⟩ hd_X7_isLegal ⟨Nat.le_of_ble_eq_true rfl, Nat.le_of_ble_eq_true rfl⟩ rfl hl.1 rfl ⟨Nat.sub_le _ _, Nat.sub_le _ _⟩ (Nat.le_of_ble_eq_true rfl) dX11_signs_9 (fun H locs hM => ?_)
  clear ho
  refine lv_if_ne (tgt := 25) hx hb dX11_signs_12 (by decide) (fun cc1 => ?_) (fun cc1 => ?_)
  · replace hf := m_ifPF hf cc1
    refine lv_aload_n hx hb dX11_signs_25 rfl (lv_at hl 0 rfl) ?_
    obtain ⟨ca, hf⟩ := m_chkPE hf
    replace ca := z_in hM (by decide) ca
    refine z_get (k := 11) (j := 1) (C := RX11) (T := TX11) (N := 10) (fl := zf_11) (v := va_rf ((zP o3.2 1 x0).map (zh y))) X hw_X11_signs_11 hM rfl zc_11 ca (by decide) fl_X11_signs_11_1 rfl dX11_signs_26 ?_
    clear ca
    obtain ⟨b4, hb9, hf⟩ := m_calPE hf
    refine z_topr hb9 ?_
    clear hb9
    refine lv_iconst (v := (0 : Int32)) hx hb dX11_signs_29 (by decide) ?_
    obtain ⟨ca, hf⟩ := m_chkPE hf
    replace ca := z_in hM (by decide) ca
    obtain ⟨o5, ho, hf⟩ := m_calPE hf
    refine z_gcallVv (k := 6) (C := RX6) (T := TX6) (N := 2) (fl := zf_6) X hM rfl zc_6 ca (c_X6_keep ho) gX11_signs_X6_keep rfl ⟨rfl, rfl⟩ hd_X6_keep ⟨Nat.le_of_ble_eq_true rfl, Nat.le_of_ble_eq_true rfl⟩ rfl hl.1 rfl ⟨Nat.sub_le _ _, Nat.sub_le _ _⟩ (Nat.le_of_ble_eq_true rfl) dX11_signs_30 (fun H locs hM => ?_)
    clear ho
    refine lv_aload_n hx hb dX11_signs_33 rfl (lv_at hl 0 rfl) ?_
    obtain ⟨ca, hf⟩ := m_chkPE hf
    replace ca := z_in hM (by decide) ca
    refine z_get (k := 11) (j := 4) (C := RX11) (T := TX11) (N := 10) (fl := zf_11) (v := va_rf ((zP o5.2 4 x0).map (zh y))) X hw_X11_signs_11 hM rfl zc_11 ca (by decide) fl_X11_signs_11_4 rfl dX11_signs_34 ?_
    clear ca
    obtain ⟨b6, hb9, hf⟩ := m_calPE hf
    refine z_topr hb9 ?_
    clear hb9
    refine lv_aload_n hx hb dX11_signs_37 rfl (lv_at hl 0 rfl) ?_
    obtain ⟨ca, hf⟩ := m_chkPE hf
    replace ca := z_in hM (by decide) ca
    refine z_get (k := 11) (j := 9) (C := RX11) (T := TX11) (N := 10) (fl := zf_11) (v := va_rf ((zP o5.2 9 x0).map (zh y))) X hw_X11_signs_11 hM rfl zc_11 ca (by decide) fl_X11_signs_11_9 rfl dX11_signs_38 ?_
    clear ca
    obtain ⟨b7, hb9, hf⟩ := m_calPE hf
    refine z_topr hb9 ?_
    clear hb9
    refine lv_iload_n hx hb dX11_signs_41 rfl (lv_at hl 1 rfl) ?_
    refine lv_aload_n hx hb dX11_signs_42 rfl (lv_at hl 0 rfl) ?_
    obtain ⟨ca, hf⟩ := m_chkPE hf
    replace ca := z_in hM (by decide) ca
    refine z_get (k := 11) (j := 1) (C := RX11) (T := TX11) (N := 10) (fl := zf_11) (v := va_rf ((zP o5.2 1 x0).map (zh y))) X hw_X11_signs_11 hM rfl zc_11 ca (by decide) fl_X11_signs_11_1 rfl dX11_signs_43 ?_
    clear ca
    obtain ⟨b8, hb9, hf⟩ := m_calPE hf
    refine z_topr hb9 ?_
    clear hb9
    obtain ⟨ca, hf⟩ := m_chkPE hf
    replace ca := z_in hM (by decide) ca
    obtain ⟨mc, ms, hcm, ho⟩ := m_galE hf
    refine z_wcallVv (k := 9) (C := RX9) (T := TX9) (N := 1) (fl := zf_9) X hM rfl zc_9 ca (c_X9_putSigns ho) gX11_signs_X9_putSigns rfl ⟨rfl, rfl⟩ ⟨by show kc - (C) + mc ≤ kc; omega, by show kt - (T) + ms ≤ kt; omega⟩ hd_X9_putSigns ⟨Nat.le_of_ble_eq_true rfl, Nat.le_of_ble_eq_true rfl⟩ rfl hl.1 rfl (Nat.le_of_ble_eq_true rfl) dX11_signs_46 (fun S11 H locs hf hM => ?_)
    refine z_eqCS (c2 := kc - (C - mc)) (t2 := kt - (T - ms)) (by omega) (by omega) ?_
    replace hCT : C - mc ≤ kc ∧ T - ms ≤ kt := by omega
    generalize C - mc = C12 at hf hCT ⊢
    generalize T - ms = T13 at hf hCT ⊢
    clear ho hcm
    refine lv_aload_n hx hb dX11_signs_49 rfl (lv_at hl 0 rfl) ?_
    obtain ⟨ca, hf⟩ := m_chkPE hf
    replace ca := z_in hM (by decide) ca
    refine z_get (k := 11) (j := 1) (C := RX11) (T := TX11) (N := 10) (fl := zf_11) (v := va_rf ((zP S11 1 x0).map (zh y))) X hw_X11_signs_11 hM rfl zc_11 ca (by decide) fl_X11_signs_11_1 rfl dX11_signs_50 ?_
    clear ca
    obtain ⟨b14, hb9, hf⟩ := m_calPE hf
    refine z_topr hb9 ?_
    clear hb9
    obtain ⟨ca, hf⟩ := m_chkPE hf
    replace ca := z_in hM (by decide) ca
    obtain ⟨o15, ho, hf⟩ := m_calPE hf
    refine z_gcallVi (k := 6) (C := RX6) (T := TX6) (N := 2) (fl := zf_6) X hM rfl zc_6 ca (c_X6_size ho) gX11_signs_X6_size rfl ⟨rfl, rfl⟩ hd_X6_size ⟨Nat.le_of_ble_eq_true rfl, Nat.le_of_ble_eq_true rfl⟩ rfl hl.1 rfl ⟨Nat.sub_le _ _, Nat.sub_le _ _⟩ (Nat.le_of_ble_eq_true rfl) dX11_signs_53 (fun H locs hM => ?_)
    clear ho
    exact hret _ _ _ _ H locs _ ls hf hM rfl dX11_signs_56
  · replace hf := m_ifPT hf cc1
    exact hthr 1 _ _ _ H locs _ _ _ _ ls _ _ hf hCT hM (by rw [hml]; exact hl.1) xt_X11_signs_1 sr_X11_signs_146 ⟨dX11_signs_15, dX11_signs_18, Or.inl ⟨dX11_signs_19, dX11_signs_21, dX11_signs_24⟩⟩
def g_X11_signs (x0 : Nat) (x1 : Int32) (S : ZS) (mc ms : Nat) (Pw : Int32 → ZS → Prop) (Px : Nat → ZS → Prop) : Prop := g_X11_signs_0 Pw Px x0 x1 S mc ms
theorem c_X11_signs {l : Launch} {D : va_G} {y : Nat → ClassId} {x0 : Nat} {x1 : Int32} {S : ZS} {kc kt : Nat} {Pw : Int32 → ZS → Prop} {Px : Nat → ZS → Prop} (hlt : l.stackTraces = false) (hf : g_X11_signs x0 x1 S kc kt Pw Px) : zXi l yX11_signs wsX11_signs ({ frames := 6, cells := kc, slots := kt, locals := 160 } : Room) [.ref (zh y x0), .int x1] D y S kc kt Pw Px :=
  z_xentI hlt ⟨Nat.le_of_ble_eq_true rfl, Nat.le_of_ble_eq_true rfl⟩ (own := RX11) (cc := cX11_signs) (maxL := 2) (by decide) rfl rfl (Nat.le_of_ble_eq_true rfl) ⟨rfl, rfl⟩ (fun p e s m args below meth c A0 Q H locs ls X hret hthr hM hl => w_X11_signs_0 X hret hthr hf ⟨Nat.le_refl _, Nat.le_refl _⟩ hM (lv_sub hl [0, 1] rfl))
theorem hd_X11_node : yX11_node.cls = RX11 ∧ yX11_node.cls ≠ "java/lang/invoke/MethodHandle" ∧ yX11_node.cls ≠ "java/lang/invoke/VarHandle" ∧ (parseMethodDescriptor yX11_node.desc).map (fun d => d.parameters.length) = some 2 := by decide +kernel
theorem fl_X11_node_11_7 : Cond.fieldLink RX11 57 "MoveTexts" "game" "LMoveTexts$Game;" ∈ wsX11_node := by decide +kernel
theorem fl_X11_node_4_0 : Cond.fieldLink RX11 170 "MoveTexts$Node" "parent" "I" ∈ wsX11_node := by decide +kernel
theorem fl_X11_node_4_1 : Cond.fieldLink RX11 173 "MoveTexts$Node" "move" "I" ∈ wsX11_node := by decide +kernel
theorem fl_X11_node_4_2 : Cond.fieldLink RX11 128 "MoveTexts$Node" "first" "I" ∈ wsX11_node := by decide +kernel
theorem fl_X11_node_4_3 : Cond.fieldLink RX11 176 "MoveTexts$Node" "next" "I" ∈ wsX11_node := by decide +kernel
theorem fl_X11_node_4_4 : Cond.fieldLink RX11 179 "MoveTexts$Node" "markCount" "I" ∈ wsX11_node := by decide +kernel
theorem fl_X11_node_4_6 : Cond.fieldLink RX11 182 "MoveTexts$Node" "remark" "LMoveTexts$Row;" ∈ wsX11_node := by decide +kernel
theorem hw_X11_node_11 : ∀ w ∈ wsX110, w ∈ wsX11_node := by decide +kernel
theorem hw_X11_node_4 : ∀ w ∈ wsX40, w ∈ wsX11_node := by decide +kernel
theorem sr_X11_node_167 : (RX11, 167, "no such node", 16) ∈ zSR := by decide +kernel
theorem sr_X11_node_185 : (RX11, 185, "no such part of a node", 17) ∈ zSR := by decide +kernel
theorem xt_X11_node_2 : zTx RX11 wsX11_node 2 165 169 := ⟨by decide +kernel, fun w hw => List.mem_cons_of_mem _ (List.mem_append_right _ hw), xh_2, xg_2⟩
def g_X11_node_0 (Pw : Int32 → ZS → Prop) (Px : Nat → ZS → Prop) (x0 : Nat) (x1 : Int32) (x2 : Int32) (S : ZS) (C T : Nat) : Prop :=
  m_chkQ (zK S x0 = 11) (
  m_calP (zP S 7 x0) (fun b1 =>
  m_chkQ (zK S b1 = 1) (
  m_calP (f_X1_has b1 x1 S) (fun o2 =>
  m_ifQ (o2.1 = 0) (
  m_thrP (C) (T) 2 o2.2 Px
  ) (
  m_chkQ (zK o2.2 x0 = 11) (
  m_calP (zP o2.2 7 x0) (fun b3 =>
  m_chkQ (zK o2.2 b3 = 1) (
  m_calP (f_X1_at b3 x1 o2.2) (fun o4 =>
  m_ifQ (x2 = (0 : Int32)) (
  m_chkQ (zK o4.2 o4.1 = 4) (
  Pw (zI o4.2 0 o4.1) o4.2)
  ) (
  m_ifQ (x2 = (1 : Int32)) (
  m_chkQ (zK o4.2 o4.1 = 4) (
  Pw (zI o4.2 1 o4.1) o4.2)
  ) (
  m_ifQ (x2 = (2 : Int32)) (
  m_chkQ (zK o4.2 o4.1 = 4) (
  Pw (zI o4.2 2 o4.1) o4.2)
  ) (
  m_ifQ (x2 = (3 : Int32)) (
  m_chkQ (zK o4.2 o4.1 = 4) (
  Pw (zI o4.2 3 o4.1) o4.2)
  ) (
  m_ifQ (x2 = (4 : Int32)) (
  m_chkQ (zK o4.2 o4.1 = 4) (
  Pw (zI o4.2 4 o4.1) o4.2)
  ) (
  m_ifQ (x2 = (5 : Int32)) (
  m_chkQ (zK o4.2 o4.1 = 4) (
  m_calP (zP o4.2 6 o4.1) (fun b5 =>
  m_chkQ (zK o4.2 b5 = 6) (
  m_calP (f_X6_size b5 o4.2) (fun o6 =>
  Pw o6.1 o6.2))))
  ) (
  m_thrP (C) (T) 2 o4.2 Px
  ))))))))))
  )))))

set_option maxRecDepth 100000 in
set_option maxHeartbeats 4000000 in
theorem w_X11_node_0 {p : Program} {l : Launch} {e : Env} {s : State} {m : MethodId} {args : Array Value} {below : List Frame} {meth : Method} {c : Code} {Q : State → Prop} {D : va_G} {y : Nat → ClassId} {A0 : Nat → Prop} {kc kt : Nat} {Pw : Int32 → ZS → Prop} {Px : Nat → ZS → Prop} (X : CallFix p m c cX11_node 4 s args wsX11_node RX11) (hret : zQi p l e ({ frames := 6, cells := kc, slots := kt, locals := 90 } : Room) s m args below meth c Q cX11_node D y A0 .int Pw) (hthr : zQx p l e ({ frames := 6, cells := kc, slots := kt, locals := 90 } : Room) s m args below meth c Q cX11_node D y A0 Px RX11 wsX11_node) {x0 : Nat} {x1 : Int32} {x2 : Int32} {S : ZS} {C T : Nat} {H : Heap} {locs : List Loc} {ls : Array Slot} (hf : g_X11_node_0 Pw Px x0 x1 x2 S C T) (hCT : C ≤ kc ∧ T ≤ kt) (hM : zH D y A0 s H locs S) (hl : lv_has ls 4 [(0, .ref (zh y x0)), (1, .int x1), (2, .int x2)]) : W p l e ({ frames := 6, cells := kc, slots := kt, locals := 90 } : Room) s m args below meth c H locs (kc - C) (kt - T) Q (F0 m 0 ls []) := by
  obtain ⟨hx, hb, hml, hown, hts⟩ := id X
  unfold g_X11_node_0 at hf
  refine lv_aload_n hx hb dX11_node_0 rfl (lv_at hl 0 rfl) ?_
  obtain ⟨ca, hf⟩ := m_chkPE hf
  replace ca := z_in hM (by decide) ca
  refine z_get (k := 11) (j := 7) (C := RX11) (T := TX11) (N := 10) (fl := zf_11) (v := va_rf ((zP S 7 x0).map (zh y))) X hw_X11_node_11 hM rfl zc_11 ca (by decide) fl_X11_node_11_7 rfl dX11_node_1 ?_
  clear ca
  obtain ⟨b1, hb9, hf⟩ := m_calPE hf
  refine z_topr hb9 ?_
  clear hb9
  refine lv_iload_n hx hb dX11_node_4 rfl (lv_at hl 1 rfl) ?_
  obtain ⟨ca, hf⟩ := m_chkPE hf
  replace ca := z_in hM (by decide) ca
  obtain ⟨o2, ho, hf⟩ := m_calPE hf
  refine z_gcallVi (k := 1) (C := RX1) (T := TX1) (N := 8) (fl := zf_1) X hM rfl zc_1 ca (c_X1_has ho) gX11_node_X1_has rfl ⟨rfl, rfl⟩ hd_X1_has ⟨Nat.le_of_ble_eq_true rfl, Nat.le_of_ble_eq_true rfl⟩ rfl hl.1 rfl ⟨Nat.sub_le _ _, Nat.sub_le _ _⟩ (Nat.le_of_ble_eq_true rfl) dX11_node_5 (fun H locs hM => ?_)
  clear ho
  refine lv_if_ne (tgt := 21) hx hb dX11_node_8 (by decide) (fun cc1 => ?_) (fun cc1 => ?_)
  · replace hf := m_ifPF hf cc1
    refine lv_aload_n hx hb dX11_node_21 rfl (lv_at hl 0 rfl) ?_
    obtain ⟨ca, hf⟩ := m_chkPE hf
    replace ca := z_in hM (by decide) ca
    refine z_get (k := 11) (j := 7) (C := RX11) (T := TX11) (N := 10) (fl := zf_11) (v := va_rf ((zP o2.2 7 x0).map (zh y))) X hw_X11_node_11 hM rfl zc_11 ca (by decide) fl_X11_node_11_7 rfl dX11_node_22 ?_
    clear ca
    obtain ⟨b3, hb9, hf⟩ := m_calPE hf
    refine z_topr hb9 ?_
    clear hb9
    refine lv_iload_n hx hb dX11_node_25 rfl (lv_at hl 1 rfl) ?_
    obtain ⟨ca, hf⟩ := m_chkPE hf
    replace ca := z_in hM (by decide) ca
    obtain ⟨o4, ho, hf⟩ := m_calPE hf
    refine z_gcallVr (k := 1) (C := RX1) (T := TX1) (N := 8) (fl := zf_1) X hM rfl zc_1 ca (c_X1_at ho) gX11_node_X1_at rfl ⟨rfl, rfl⟩ hd_X1_at ⟨Nat.le_of_ble_eq_true rfl, Nat.le_of_ble_eq_true rfl⟩ rfl hl.1 rfl ⟨Nat.sub_le _ _, Nat.sub_le _ _⟩ (Nat.le_of_ble_eq_true rfl) dX11_node_26 (fun H locs hM => ?_)
    clear ho
    refine lv_astore_n (lv' := [(3, .ref (zh y o4.1)), (0, .ref (zh y x0)), (1, .int x1), (2, .int x2)]) hx hb dX11_node_29 rfl hl (by decide) rfl (fun ls hl => ?_)
    refine lv_iload_n hx hb dX11_node_30 rfl (lv_at hl 3 rfl) ?_
    by_cases ck0 : x2 = (0 : Int32)
    · replace hf := m_ifPT hf ck0
      refine lv_tableIn (off := 37) (tgt := 68) hx hb dX11_node_31 (by rw [ck0]; decide) (by rw [ck0]; decide) (by rw [ck0]; decide) (by decide) ?_
      refine lv_aload_n hx hb dX11_node_68 rfl (lv_at hl 0 rfl) ?_
      obtain ⟨ca, hf⟩ := m_chkPE hf
      replace ca := z_in hM (by decide) ca
      refine z_get (k := 4) (j := 0) (C := RX4) (T := TX4) (N := 7) (fl := zf_4) (v := .int (zI o4.2 0 o4.1)) X hw_X11_node_4 hM rfl zc_4 ca (by decide) fl_X11_node_4_0 rfl dX11_node_69 ?_
      clear ca
      exact hret _ _ _ _ H locs _ ls hf hM rfl dX11_node_72
    · replace hf := m_ifPF hf ck0
      by_cases ck1 : x2 = (1 : Int32)
      · replace hf := m_ifPT hf ck1
        refine lv_tableIn (off := 42) (tgt := 73) hx hb dX11_node_31 (by rw [ck1]; decide) (by rw [ck1]; decide) (by rw [ck1]; decide) (by decide) ?_
        refine lv_aload_n hx hb dX11_node_73 rfl (lv_at hl 0 rfl) ?_
        obtain ⟨ca, hf⟩ := m_chkPE hf
        replace ca := z_in hM (by decide) ca
        refine z_get (k := 4) (j := 1) (C := RX4) (T := TX4) (N := 7) (fl := zf_4) (v := .int (zI o4.2 1 o4.1)) X hw_X11_node_4 hM rfl zc_4 ca (by decide) fl_X11_node_4_1 rfl dX11_node_74 ?_
        clear ca
        exact hret _ _ _ _ H locs _ ls hf hM rfl dX11_node_77
      · replace hf := m_ifPF hf ck1
        by_cases ck2 : x2 = (2 : Int32)
        · replace hf := m_ifPT hf ck2
          refine lv_tableIn (off := 47) (tgt := 78) hx hb dX11_node_31 (by rw [ck2]; decide) (by rw [ck2]; decide) (by rw [ck2]; decide) (by decide) ?_
          refine lv_aload_n hx hb dX11_node_78 rfl (lv_at hl 0 rfl) ?_
          obtain ⟨ca, hf⟩ := m_chkPE hf
          replace ca := z_in hM (by decide) ca
          refine z_get (k := 4) (j := 2) (C := RX4) (T := TX4) (N := 7) (fl := zf_4) (v := .int (zI o4.2 2 o4.1)) X hw_X11_node_4 hM rfl zc_4 ca (by decide) fl_X11_node_4_2 rfl dX11_node_79 ?_
          clear ca
          exact hret _ _ _ _ H locs _ ls hf hM rfl dX11_node_82
        · replace hf := m_ifPF hf ck2
          by_cases ck3 : x2 = (3 : Int32)
          · replace hf := m_ifPT hf ck3
            refine lv_tableIn (off := 52) (tgt := 83) hx hb dX11_node_31 (by rw [ck3]; decide) (by rw [ck3]; decide) (by rw [ck3]; decide) (by decide) ?_
            refine lv_aload_n hx hb dX11_node_83 rfl (lv_at hl 0 rfl) ?_
            obtain ⟨ca, hf⟩ := m_chkPE hf
            replace ca := z_in hM (by decide) ca
            refine z_get (k := 4) (j := 3) (C := RX4) (T := TX4) (N := 7) (fl := zf_4) (v := .int (zI o4.2 3 o4.1)) X hw_X11_node_4 hM rfl zc_4 ca (by decide) fl_X11_node_4_3 rfl dX11_node_84 ?_
            clear ca
            exact hret _ _ _ _ H locs _ ls hf hM rfl dX11_node_87
          · replace hf := m_ifPF hf ck3
            by_cases ck4 : x2 = (4 : Int32)
            · replace hf := m_ifPT hf ck4
              refine lv_tableIn (off := 57) (tgt := 88) hx hb dX11_node_31 (by rw [ck4]; decide) (by rw [ck4]; decide) (by rw [ck4]; decide) (by decide) ?_
              refine lv_aload_n hx hb dX11_node_88 rfl (lv_at hl 0 rfl) ?_
              obtain ⟨ca, hf⟩ := m_chkPE hf
              replace ca := z_in hM (by decide) ca
              refine z_get (k := 4) (j := 4) (C := RX4) (T := TX4) (N := 7) (fl := zf_4) (v := .int (zI o4.2 4 o4.1)) X hw_X11_node_4 hM rfl zc_4 ca (by decide) fl_X11_node_4_4 rfl dX11_node_89 ?_
              clear ca
              exact hret _ _ _ _ H locs _ ls hf hM rfl dX11_node_92
            · replace hf := m_ifPF hf ck4
              by_cases ck5 : x2 = (5 : Int32)
              · replace hf := m_ifPT hf ck5
                refine lv_tableIn (off := 62) (tgt := 93) hx hb dX11_node_31 (by rw [ck5]; decide) (by rw [ck5]; decide) (by rw [ck5]; decide) (by decide) ?_
                refine lv_aload_n hx hb dX11_node_93 rfl (lv_at hl 0 rfl) ?_
                obtain ⟨ca, hf⟩ := m_chkPE hf
                replace ca := z_in hM (by decide) ca
                refine z_get (k := 4) (j := 6) (C := RX4) (T := TX4) (N := 7) (fl := zf_4) (v := va_rf ((zP o4.2 6 o4.1).map (zh y))) X hw_X11_node_4 hM rfl zc_4 ca (by decide) fl_X11_node_4_6 rfl dX11_node_94 ?_
                clear ca
                obtain ⟨b5, hb9, hf⟩ := m_calPE hf
                refine z_topr hb9 ?_
                clear hb9
                obtain ⟨ca, hf⟩ := m_chkPE hf
                replace ca := z_in hM (by decide) ca
                obtain ⟨o6, ho, hf⟩ := m_calPE hf
                refine z_gcallVi (k := 6) (C := RX6) (T := TX6) (N := 2) (fl := zf_6) X hM rfl zc_6 ca (c_X6_size ho) gX11_node_X6_size rfl ⟨rfl, rfl⟩ hd_X6_size ⟨Nat.le_of_ble_eq_true rfl, Nat.le_of_ble_eq_true rfl⟩ rfl hl.1 rfl ⟨Nat.sub_le _ _, Nat.sub_le _ _⟩ (Nat.le_of_ble_eq_true rfl) dX11_node_97 (fun H locs hM => ?_)
                clear ho
                exact hret _ _ _ _ H locs _ ls hf hM rfl dX11_node_100
              · replace hf := m_ifPF hf ck5
                refine m_tabD (tgt := 101) [(0 : Int32), (1 : Int32), (2 : Int32), (3 : Int32), (4 : Int32), (5 : Int32)] hx hb dX11_node_31 (by decide) (by decide) (List.forall_mem_cons.mpr ⟨ck0, List.forall_mem_cons.mpr ⟨ck1, List.forall_mem_cons.mpr ⟨ck2, List.forall_mem_cons.mpr ⟨ck3, List.forall_mem_cons.mpr ⟨ck4, List.forall_mem_cons.mpr ⟨ck5, fun _ h9 => absurd h9 List.not_mem_nil⟩⟩⟩⟩⟩⟩) (by decide) ?_
                exact hthr 2 _ _ _ H locs _ _ _ _ ls _ _ hf hCT hM (by rw [hml]; exact hl.1) xt_X11_node_2 sr_X11_node_185 ⟨dX11_node_101, dX11_node_104, Or.inl ⟨dX11_node_105, dX11_node_107, dX11_node_110⟩⟩
  · replace hf := m_ifPT hf cc1
    exact hthr 2 _ _ _ H locs _ _ _ _ ls _ _ hf hCT hM (by rw [hml]; exact hl.1) xt_X11_node_2 sr_X11_node_167 ⟨dX11_node_11, dX11_node_14, Or.inl ⟨dX11_node_15, dX11_node_17, dX11_node_20⟩⟩
def g_X11_node (x0 : Nat) (x1 : Int32) (x2 : Int32) (S : ZS) (mc ms : Nat) (Pw : Int32 → ZS → Prop) (Px : Nat → ZS → Prop) : Prop := g_X11_node_0 Pw Px x0 x1 x2 S mc ms
theorem c_X11_node {l : Launch} {D : va_G} {y : Nat → ClassId} {x0 : Nat} {x1 : Int32} {x2 : Int32} {S : ZS} {kc kt : Nat} {Pw : Int32 → ZS → Prop} {Px : Nat → ZS → Prop} (hlt : l.stackTraces = false) (hf : g_X11_node x0 x1 x2 S kc kt Pw Px) : zXi l yX11_node wsX11_node ({ frames := 6, cells := kc, slots := kt, locals := 90 } : Room) [.ref (zh y x0), .int x1, .int x2] D y S kc kt Pw Px :=
  z_xentI hlt ⟨Nat.le_of_ble_eq_true rfl, Nat.le_of_ble_eq_true rfl⟩ (own := RX11) (cc := cX11_node) (maxL := 4) (by decide) rfl rfl (Nat.le_of_ble_eq_true rfl) ⟨rfl, rfl⟩ (fun p e s m args below meth c A0 Q H locs ls X hret hthr hM hl => w_X11_node_0 X hret hthr hf ⟨Nat.le_refl _, Nat.le_refl _⟩ hM (lv_sub hl [0, 1, 2] rfl))
theorem hd_X11_mark : yX11_mark.cls = RX11 ∧ yX11_mark.cls ≠ "java/lang/invoke/MethodHandle" ∧ yX11_mark.cls ≠ "java/lang/invoke/VarHandle" ∧ (parseMethodDescriptor yX11_mark.desc).map (fun d => d.parameters.length) = some 2 := by decide +kernel
theorem fl_X11_mark_11_7 : Cond.fieldLink RX11 57 "MoveTexts" "game" "LMoveTexts$Game;" ∈ wsX11_mark := by decide +kernel
theorem fl_X11_mark_4_4 : Cond.fieldLink RX11 179 "MoveTexts$Node" "markCount" "I" ∈ wsX11_mark := by decide +kernel
theorem hw_X11_mark_11 : ∀ w ∈ wsX110, w ∈ wsX11_mark := by decide +kernel
theorem hw_X11_mark_4 : ∀ w ∈ wsX40, w ∈ wsX11_mark := by decide +kernel
theorem sr_X11_mark_187 : (RX11, 187, "no such node or mark", 18) ∈ zSR := by decide +kernel
theorem xt_X11_mark_2 : zTx RX11 wsX11_mark 2 165 169 := ⟨by decide +kernel, fun w hw => List.mem_cons_of_mem _ (List.mem_append_right _ hw), xh_2, xg_2⟩
def g_X11_mark_30 (Pw : Int32 → ZS → Prop) (Px : Nat → ZS → Prop) (S : ZS) (C T : Nat) : Prop :=
  m_thrP (C) (T) 2 S Px

set_option maxRecDepth 100000 in
set_option maxHeartbeats 4000000 in
theorem w_X11_mark_30 {p : Program} {l : Launch} {e : Env} {s : State} {m : MethodId} {args : Array Value} {below : List Frame} {meth : Method} {c : Code} {Q : State → Prop} {D : va_G} {y : Nat → ClassId} {A0 : Nat → Prop} {kc kt : Nat} {Pw : Int32 → ZS → Prop} {Px : Nat → ZS → Prop} (X : CallFix p m c cX11_mark 3 s args wsX11_mark RX11) (hret : zQi p l e ({ frames := 6, cells := kc, slots := kt, locals := 90 } : Room) s m args below meth c Q cX11_mark D y A0 .int Pw) (hthr : zQx p l e ({ frames := 6, cells := kc, slots := kt, locals := 90 } : Room) s m args below meth c Q cX11_mark D y A0 Px RX11 wsX11_mark) {S : ZS} {C T : Nat} {H : Heap} {locs : List Loc} {ls : Array Slot} (hf : g_X11_mark_30 Pw Px  S C T) (hCT : C ≤ kc ∧ T ≤ kt) (hM : zH D y A0 s H locs S) (hl : lv_has ls 3 []) : W p l e ({ frames := 6, cells := kc, slots := kt, locals := 90 } : Room) s m args below meth c H locs (kc - C) (kt - T) Q (F0 m 30 ls []) := by
  obtain ⟨hx, hb, hml, hown, hts⟩ := id X
  unfold g_X11_mark_30 at hf
  exact hthr 2 _ _ _ H locs _ _ _ _ ls _ _ hf hCT hM (by rw [hml]; exact hl.1) xt_X11_mark_2 sr_X11_mark_187 ⟨dX11_mark_30, dX11_mark_33, Or.inl ⟨dX11_mark_34, dX11_mark_36, dX11_mark_39⟩⟩
def g_X11_mark_0 (Pw : Int32 → ZS → Prop) (Px : Nat → ZS → Prop) (x0 : Nat) (x1 : Int32) (x2 : Int32) (S : ZS) (C T : Nat) : Prop :=
  m_chkQ (zK S x0 = 11) (
  m_calP (zP S 7 x0) (fun b1 =>
  m_chkQ (zK S b1 = 1) (
  m_calP (f_X1_has b1 x1 S) (fun o2 =>
  m_ifQ (o2.1 = 0) (
  g_X11_mark_30 Pw Px  o2.2 (C) (T)
  ) (
  m_ifQ (x2 < 0) (
  g_X11_mark_30 Pw Px  o2.2 (C) (T)
  ) (
  m_chkQ (zK o2.2 x0 = 11) (
  m_calP (zP o2.2 7 x0) (fun b3 =>
  m_chkQ (zK o2.2 b3 = 1) (
  m_calP (f_X1_at b3 x1 o2.2) (fun o4 =>
  m_chkQ (zK o4.2 o4.1 = 4) (
  m_ifQ (x2 < (zI o4.2 4 o4.1)) (
  m_chkQ (zK o4.2 x0 = 11) (
  m_calP (zP o4.2 7 x0) (fun b5 =>
  m_chkQ (zK o4.2 b5 = 1) (
  m_calP (f_X1_at b5 x1 o4.2) (fun o6 =>
  m_chkQ (zK o6.2 o6.1 = 4) (
  m_calP (f_X4_markAt o6.1 x2 o6.2) (fun o7 =>
  Pw o7.1 o7.2))))))
  ) (
  g_X11_mark_30 Pw Px  o4.2 (C) (T)
  ))))))
  )
  )))))

set_option maxRecDepth 100000 in
set_option maxHeartbeats 4000000 in
theorem w_X11_mark_0 {p : Program} {l : Launch} {e : Env} {s : State} {m : MethodId} {args : Array Value} {below : List Frame} {meth : Method} {c : Code} {Q : State → Prop} {D : va_G} {y : Nat → ClassId} {A0 : Nat → Prop} {kc kt : Nat} {Pw : Int32 → ZS → Prop} {Px : Nat → ZS → Prop} (X : CallFix p m c cX11_mark 3 s args wsX11_mark RX11) (hret : zQi p l e ({ frames := 6, cells := kc, slots := kt, locals := 90 } : Room) s m args below meth c Q cX11_mark D y A0 .int Pw) (hthr : zQx p l e ({ frames := 6, cells := kc, slots := kt, locals := 90 } : Room) s m args below meth c Q cX11_mark D y A0 Px RX11 wsX11_mark) {x0 : Nat} {x1 : Int32} {x2 : Int32} {S : ZS} {C T : Nat} {H : Heap} {locs : List Loc} {ls : Array Slot} (hf : g_X11_mark_0 Pw Px x0 x1 x2 S C T) (hCT : C ≤ kc ∧ T ≤ kt) (hM : zH D y A0 s H locs S) (hl : lv_has ls 3 [(0, .ref (zh y x0)), (1, .int x1), (2, .int x2)]) : W p l e ({ frames := 6, cells := kc, slots := kt, locals := 90 } : Room) s m args below meth c H locs (kc - C) (kt - T) Q (F0 m 0 ls []) := by
  obtain ⟨hx, hb, hml, hown, hts⟩ := id X
  unfold g_X11_mark_0 at hf
  refine lv_aload_n hx hb dX11_mark_0 rfl (lv_at hl 0 rfl) ?_
  obtain ⟨ca, hf⟩ := m_chkPE hf
  replace ca := z_in hM (by decide) ca
  refine z_get (k := 11) (j := 7) (C := RX11) (T := TX11) (N := 10) (fl := zf_11) (v := va_rf ((zP S 7 x0).map (zh y))) X hw_X11_mark_11 hM rfl zc_11 ca (by decide) fl_X11_mark_11_7 rfl dX11_mark_1 ?_
  clear ca
  obtain ⟨b1, hb9, hf⟩ := m_calPE hf
  refine z_topr hb9 ?_
  clear hb9
  refine lv_iload_n hx hb dX11_mark_4 rfl (lv_at hl 1 rfl) ?_
  obtain ⟨ca, hf⟩ := m_chkPE hf
  replace ca := z_in hM (by decide) ca
  obtain ⟨o2, ho, hf⟩ := m_calPE hf
  refine z_gcallVi (k := 1) (C := RX1) (T := TX1) (N := 8) (fl := zf_1) X hM rfl zc_1 ca (c_X1_has ho) gX11_mark_X1_has rfl ⟨rfl, rfl⟩ hd_X1_has ⟨Nat.le_of_ble_eq_true rfl, Nat.le_of_ble_eq_true rfl⟩ rfl hl.1 rfl ⟨Nat.sub_le _ _, Nat.sub_le _ _⟩ (Nat.le_of_ble_eq_true rfl) dX11_mark_5 (fun H locs hM => ?_)
  clear ho
  refine lv_if_eq (tgt := 30) hx hb dX11_mark_8 (by decide) (fun cc1 => ?_) (fun cc1 => ?_)
  · replace hf := m_ifPT hf cc1
    exact w_X11_mark_30 X hret hthr hf hCT hM (lv_sub hl [] rfl)
  · replace hf := m_ifPF hf cc1
    refine lv_iload_n hx hb dX11_mark_11 rfl (lv_at hl 2 rfl) ?_
    refine lv_if_lt (tgt := 30) hx hb dX11_mark_12 (by decide) (fun cc1 => ?_) (fun cc1 => ?_)
    · replace hf := m_ifPT hf cc1
      exact w_X11_mark_30 X hret hthr hf hCT hM (lv_sub hl [] rfl)
    · replace hf := m_ifPF hf cc1
      refine lv_iload_n hx hb dX11_mark_15 rfl (lv_at hl 2 rfl) ?_
      refine lv_aload_n hx hb dX11_mark_16 rfl (lv_at hl 0 rfl) ?_
      obtain ⟨ca, hf⟩ := m_chkPE hf
      replace ca := z_in hM (by decide) ca
      refine z_get (k := 11) (j := 7) (C := RX11) (T := TX11) (N := 10) (fl := zf_11) (v := va_rf ((zP o2.2 7 x0).map (zh y))) X hw_X11_mark_11 hM rfl zc_11 ca (by decide) fl_X11_mark_11_7 rfl dX11_mark_17 ?_
      clear ca
      obtain ⟨b3, hb9, hf⟩ := m_calPE hf
      refine z_topr hb9 ?_
      clear hb9
      refine lv_iload_n hx hb dX11_mark_20 rfl (lv_at hl 1 rfl) ?_
      obtain ⟨ca, hf⟩ := m_chkPE hf
      replace ca := z_in hM (by decide) ca
      obtain ⟨o4, ho, hf⟩ := m_calPE hf
      refine z_gcallVr (k := 1) (C := RX1) (T := TX1) (N := 8) (fl := zf_1) X hM rfl zc_1 ca (c_X1_at ho) gX11_mark_X1_at rfl ⟨rfl, rfl⟩ hd_X1_at ⟨Nat.le_of_ble_eq_true rfl, Nat.le_of_ble_eq_true rfl⟩ rfl hl.1 rfl ⟨Nat.sub_le _ _, Nat.sub_le _ _⟩ (Nat.le_of_ble_eq_true rfl) dX11_mark_21 (fun H locs hM => ?_)
      clear ho
      obtain ⟨ca, hf⟩ := m_chkPE hf
      replace ca := z_in hM (by decide) ca
      refine z_get (k := 4) (j := 4) (C := RX4) (T := TX4) (N := 7) (fl := zf_4) (v := .int (zI o4.2 4 o4.1)) X hw_X11_mark_4 hM rfl zc_4 ca (by decide) fl_X11_mark_4_4 rfl dX11_mark_24 ?_
      clear ca
      refine lv_icmp_lt (tgt := 40) hx hb dX11_mark_27 (by decide) (fun cc1 => ?_) (fun cc1 => ?_)
      · replace hf := m_ifPT hf cc1
        refine lv_aload_n hx hb dX11_mark_40 rfl (lv_at hl 0 rfl) ?_
        obtain ⟨ca, hf⟩ := m_chkPE hf
        replace ca := z_in hM (by decide) ca
        refine z_get (k := 11) (j := 7) (C := RX11) (T := TX11) (N := 10) (fl := zf_11) (v := va_rf ((zP o4.2 7 x0).map (zh y))) X hw_X11_mark_11 hM rfl zc_11 ca (by decide) fl_X11_mark_11_7 rfl dX11_mark_41 ?_
        clear ca
        obtain ⟨b5, hb9, hf⟩ := m_calPE hf
        refine z_topr hb9 ?_
        clear hb9
        refine lv_iload_n hx hb dX11_mark_44 rfl (lv_at hl 1 rfl) ?_
        obtain ⟨ca, hf⟩ := m_chkPE hf
        replace ca := z_in hM (by decide) ca
        obtain ⟨o6, ho, hf⟩ := m_calPE hf
        refine z_gcallVr (k := 1) (C := RX1) (T := TX1) (N := 8) (fl := zf_1) X hM rfl zc_1 ca (c_X1_at ho) gX11_mark_X1_at rfl ⟨rfl, rfl⟩ hd_X1_at ⟨Nat.le_of_ble_eq_true rfl, Nat.le_of_ble_eq_true rfl⟩ rfl hl.1 rfl ⟨Nat.sub_le _ _, Nat.sub_le _ _⟩ (Nat.le_of_ble_eq_true rfl) dX11_mark_45 (fun H locs hM => ?_)
        clear ho
        refine lv_iload_n hx hb dX11_mark_48 rfl (lv_at hl 2 rfl) ?_
        obtain ⟨ca, hf⟩ := m_chkPE hf
        replace ca := z_in hM (by decide) ca
        obtain ⟨o7, ho, hf⟩ := m_calPE hf
        refine z_gcallVi (k := 4) (C := RX4) (T := TX4) (N := 7) (fl := zf_4) X hM rfl zc_4 ca (c_X4_markAt ho) gX11_mark_X4_markAt rfl ⟨rfl, rfl⟩ hd_X4_markAt ⟨Nat.le_of_ble_eq_true rfl, Nat.le_of_ble_eq_true rfl⟩ rfl hl.1 rfl ⟨Nat.sub_le _ _, Nat.sub_le _ _⟩ (Nat.le_of_ble_eq_true rfl) dX11_mark_49 (fun H locs hM => ?_)
        clear ho
        exact hret _ _ _ _ H locs _ ls hf hM rfl dX11_mark_52
      · replace hf := m_ifPF hf cc1
        exact w_X11_mark_30 X hret hthr hf hCT hM (lv_sub hl [] rfl)
def g_X11_mark (x0 : Nat) (x1 : Int32) (x2 : Int32) (S : ZS) (mc ms : Nat) (Pw : Int32 → ZS → Prop) (Px : Nat → ZS → Prop) : Prop := g_X11_mark_0 Pw Px x0 x1 x2 S mc ms
theorem c_X11_mark {l : Launch} {D : va_G} {y : Nat → ClassId} {x0 : Nat} {x1 : Int32} {x2 : Int32} {S : ZS} {kc kt : Nat} {Pw : Int32 → ZS → Prop} {Px : Nat → ZS → Prop} (hlt : l.stackTraces = false) (hf : g_X11_mark x0 x1 x2 S kc kt Pw Px) : zXi l yX11_mark wsX11_mark ({ frames := 6, cells := kc, slots := kt, locals := 90 } : Room) [.ref (zh y x0), .int x1, .int x2] D y S kc kt Pw Px :=
  z_xentI hlt ⟨Nat.le_of_ble_eq_true rfl, Nat.le_of_ble_eq_true rfl⟩ (own := RX11) (cc := cX11_mark) (maxL := 3) (by decide) rfl rfl (Nat.le_of_ble_eq_true rfl) ⟨rfl, rfl⟩ (fun p e s m args below meth c A0 Q H locs ls X hret hthr hM hl => w_X11_mark_0 X hret hthr hf ⟨Nat.le_refl _, Nat.le_refl _⟩ hM (lv_sub hl [0, 1, 2] rfl))
theorem hd_X11_remark : yX11_remark.cls = RX11 ∧ yX11_remark.cls ≠ "java/lang/invoke/MethodHandle" ∧ yX11_remark.cls ≠ "java/lang/invoke/VarHandle" ∧ (parseMethodDescriptor yX11_remark.desc).map (fun d => d.parameters.length) = some 2 := by decide +kernel
theorem fl_X11_remark_11_7 : Cond.fieldLink RX11 57 "MoveTexts" "game" "LMoveTexts$Game;" ∈ wsX11_remark := by decide +kernel
theorem fl_X11_remark_4_6 : Cond.fieldLink RX11 182 "MoveTexts$Node" "remark" "LMoveTexts$Row;" ∈ wsX11_remark := by decide +kernel
theorem hw_X11_remark_11 : ∀ w ∈ wsX110, w ∈ wsX11_remark := by decide +kernel
theorem hw_X11_remark_4 : ∀ w ∈ wsX40, w ∈ wsX11_remark := by decide +kernel
theorem sr_X11_remark_193 : (RX11, 193, "no such node or character", 19) ∈ zSR := by decide +kernel
theorem xt_X11_remark_2 : zTx RX11 wsX11_remark 2 165 169 := ⟨by decide +kernel, fun w hw => List.mem_cons_of_mem _ (List.mem_append_right _ hw), xh_2, xg_2⟩
def g_X11_remark_33 (Pw : Int32 → ZS → Prop) (Px : Nat → ZS → Prop) (S : ZS) (C T : Nat) : Prop :=
  m_thrP (C) (T) 2 S Px

set_option maxRecDepth 100000 in
set_option maxHeartbeats 4000000 in
theorem w_X11_remark_33 {p : Program} {l : Launch} {e : Env} {s : State} {m : MethodId} {args : Array Value} {below : List Frame} {meth : Method} {c : Code} {Q : State → Prop} {D : va_G} {y : Nat → ClassId} {A0 : Nat → Prop} {kc kt : Nat} {Pw : Int32 → ZS → Prop} {Px : Nat → ZS → Prop} (X : CallFix p m c cX11_remark 3 s args wsX11_remark RX11) (hret : zQi p l e ({ frames := 6, cells := kc, slots := kt, locals := 90 } : Room) s m args below meth c Q cX11_remark D y A0 .int Pw) (hthr : zQx p l e ({ frames := 6, cells := kc, slots := kt, locals := 90 } : Room) s m args below meth c Q cX11_remark D y A0 Px RX11 wsX11_remark) {S : ZS} {C T : Nat} {H : Heap} {locs : List Loc} {ls : Array Slot} (hf : g_X11_remark_33 Pw Px  S C T) (hCT : C ≤ kc ∧ T ≤ kt) (hM : zH D y A0 s H locs S) (hl : lv_has ls 3 []) : W p l e ({ frames := 6, cells := kc, slots := kt, locals := 90 } : Room) s m args below meth c H locs (kc - C) (kt - T) Q (F0 m 33 ls []) := by
  obtain ⟨hx, hb, hml, hown, hts⟩ := id X
  unfold g_X11_remark_33 at hf
  exact hthr 2 _ _ _ H locs _ _ _ _ ls _ _ hf hCT hM (by rw [hml]; exact hl.1) xt_X11_remark_2 sr_X11_remark_193 ⟨dX11_remark_33, dX11_remark_36, Or.inl ⟨dX11_remark_37, dX11_remark_39, dX11_remark_42⟩⟩
def g_X11_remark_0 (Pw : Int32 → ZS → Prop) (Px : Nat → ZS → Prop) (x0 : Nat) (x1 : Int32) (x2 : Int32) (S : ZS) (C T : Nat) : Prop :=
  m_chkQ (zK S x0 = 11) (
  m_calP (zP S 7 x0) (fun b1 =>
  m_chkQ (zK S b1 = 1) (
  m_calP (f_X1_has b1 x1 S) (fun o2 =>
  m_ifQ (o2.1 = 0) (
  g_X11_remark_33 Pw Px  o2.2 (C) (T)
  ) (
  m_ifQ (x2 < 0) (
  g_X11_remark_33 Pw Px  o2.2 (C) (T)
  ) (
  m_chkQ (zK o2.2 x0 = 11) (
  m_calP (zP o2.2 7 x0) (fun b3 =>
  m_chkQ (zK o2.2 b3 = 1) (
  m_calP (f_X1_at b3 x1 o2.2) (fun o4 =>
  m_chkQ (zK o4.2 o4.1 = 4) (
  m_calP (zP o4.2 6 o4.1) (fun b5 =>
  m_chkQ (zK o4.2 b5 = 6) (
  m_calP (f_X6_size b5 o4.2) (fun o6 =>
  m_ifQ (x2 < o6.1) (
  m_chkQ (zK o6.2 x0 = 11) (
  m_calP (zP o6.2 7 x0) (fun b7 =>
  m_chkQ (zK o6.2 b7 = 1) (
  m_calP (f_X1_at b7 x1 o6.2) (fun o8 =>
  m_chkQ (zK o8.2 o8.1 = 4) (
  m_calP (zP o8.2 6 o8.1) (fun b9 =>
  m_chkQ (zK o8.2 b9 = 6) (
  m_calP (f_X6_at b9 x2 o8.2) (fun o10 =>
  Pw o10.1 o10.2))))))))
  ) (
  g_X11_remark_33 Pw Px  o6.2 (C) (T)
  )))))))))
  )
  )))))

set_option maxRecDepth 100000 in
set_option maxHeartbeats 4000000 in
theorem w_X11_remark_0 {p : Program} {l : Launch} {e : Env} {s : State} {m : MethodId} {args : Array Value} {below : List Frame} {meth : Method} {c : Code} {Q : State → Prop} {D : va_G} {y : Nat → ClassId} {A0 : Nat → Prop} {kc kt : Nat} {Pw : Int32 → ZS → Prop} {Px : Nat → ZS → Prop} (X : CallFix p m c cX11_remark 3 s args wsX11_remark RX11) (hret : zQi p l e ({ frames := 6, cells := kc, slots := kt, locals := 90 } : Room) s m args below meth c Q cX11_remark D y A0 .int Pw) (hthr : zQx p l e ({ frames := 6, cells := kc, slots := kt, locals := 90 } : Room) s m args below meth c Q cX11_remark D y A0 Px RX11 wsX11_remark) {x0 : Nat} {x1 : Int32} {x2 : Int32} {S : ZS} {C T : Nat} {H : Heap} {locs : List Loc} {ls : Array Slot} (hf : g_X11_remark_0 Pw Px x0 x1 x2 S C T) (hCT : C ≤ kc ∧ T ≤ kt) (hM : zH D y A0 s H locs S) (hl : lv_has ls 3 [(0, .ref (zh y x0)), (1, .int x1), (2, .int x2)]) : W p l e ({ frames := 6, cells := kc, slots := kt, locals := 90 } : Room) s m args below meth c H locs (kc - C) (kt - T) Q (F0 m 0 ls []) := by
  obtain ⟨hx, hb, hml, hown, hts⟩ := id X
  unfold g_X11_remark_0 at hf
  refine lv_aload_n hx hb dX11_remark_0 rfl (lv_at hl 0 rfl) ?_
  obtain ⟨ca, hf⟩ := m_chkPE hf
  replace ca := z_in hM (by decide) ca
  refine z_get (k := 11) (j := 7) (C := RX11) (T := TX11) (N := 10) (fl := zf_11) (v := va_rf ((zP S 7 x0).map (zh y))) X hw_X11_remark_11 hM rfl zc_11 ca (by decide) fl_X11_remark_11_7 rfl dX11_remark_1 ?_
  clear ca
  obtain ⟨b1, hb9, hf⟩ := m_calPE hf
  refine z_topr hb9 ?_
  clear hb9
  refine lv_iload_n hx hb dX11_remark_4 rfl (lv_at hl 1 rfl) ?_
  obtain ⟨ca, hf⟩ := m_chkPE hf
  replace ca := z_in hM (by decide) ca
  obtain ⟨o2, ho, hf⟩ := m_calPE hf
  refine z_gcallVi (k := 1) (C := RX1) (T := TX1) (N := 8) (fl := zf_1) X hM rfl zc_1 ca (c_X1_has ho) gX11_remark_X1_has rfl ⟨rfl, rfl⟩ hd_X1_has ⟨Nat.le_of_ble_eq_true rfl, Nat.le_of_ble_eq_true rfl⟩ rfl hl.1 rfl ⟨Nat.sub_le _ _, Nat.sub_le _ _⟩ (Nat.le_of_ble_eq_true rfl) dX11_remark_5 (fun H locs hM => ?_)
  clear ho
  refine lv_if_eq (tgt := 33) hx hb dX11_remark_8 (by decide) (fun cc1 => ?_) (fun cc1 => ?_)
  · replace hf := m_ifPT hf cc1
    exact w_X11_remark_33 X hret hthr hf hCT hM (lv_sub hl [] rfl)
  · replace hf := m_ifPF hf cc1
    refine lv_iload_n hx hb dX11_remark_11 rfl (lv_at hl 2 rfl) ?_
    refine lv_if_lt (tgt := 33) hx hb dX11_remark_12 (by decide) (fun cc1 => ?_) (fun cc1 => ?_)
    · replace hf := m_ifPT hf cc1
      exact w_X11_remark_33 X hret hthr hf hCT hM (lv_sub hl [] rfl)
    · replace hf := m_ifPF hf cc1
      refine lv_iload_n hx hb dX11_remark_15 rfl (lv_at hl 2 rfl) ?_
      refine lv_aload_n hx hb dX11_remark_16 rfl (lv_at hl 0 rfl) ?_
      obtain ⟨ca, hf⟩ := m_chkPE hf
      replace ca := z_in hM (by decide) ca
      refine z_get (k := 11) (j := 7) (C := RX11) (T := TX11) (N := 10) (fl := zf_11) (v := va_rf ((zP o2.2 7 x0).map (zh y))) X hw_X11_remark_11 hM rfl zc_11 ca (by decide) fl_X11_remark_11_7 rfl dX11_remark_17 ?_
      clear ca
      obtain ⟨b3, hb9, hf⟩ := m_calPE hf
      refine z_topr hb9 ?_
      clear hb9
      refine lv_iload_n hx hb dX11_remark_20 rfl (lv_at hl 1 rfl) ?_
      obtain ⟨ca, hf⟩ := m_chkPE hf
      replace ca := z_in hM (by decide) ca
      obtain ⟨o4, ho, hf⟩ := m_calPE hf
      refine z_gcallVr (k := 1) (C := RX1) (T := TX1) (N := 8) (fl := zf_1) X hM rfl zc_1 ca (c_X1_at ho) gX11_remark_X1_at rfl ⟨rfl, rfl⟩ hd_X1_at ⟨Nat.le_of_ble_eq_true rfl, Nat.le_of_ble_eq_true rfl⟩ rfl hl.1 rfl ⟨Nat.sub_le _ _, Nat.sub_le _ _⟩ (Nat.le_of_ble_eq_true rfl) dX11_remark_21 (fun H locs hM => ?_)
      clear ho
      obtain ⟨ca, hf⟩ := m_chkPE hf
      replace ca := z_in hM (by decide) ca
      refine z_get (k := 4) (j := 6) (C := RX4) (T := TX4) (N := 7) (fl := zf_4) (v := va_rf ((zP o4.2 6 o4.1).map (zh y))) X hw_X11_remark_4 hM rfl zc_4 ca (by decide) fl_X11_remark_4_6 rfl dX11_remark_24 ?_
      clear ca
      obtain ⟨b5, hb9, hf⟩ := m_calPE hf
      refine z_topr hb9 ?_
      clear hb9
      obtain ⟨ca, hf⟩ := m_chkPE hf
      replace ca := z_in hM (by decide) ca
      obtain ⟨o6, ho, hf⟩ := m_calPE hf
      refine z_gcallVi (k := 6) (C := RX6) (T := TX6) (N := 2) (fl := zf_6) X hM rfl zc_6 ca (c_X6_size ho) gX11_remark_X6_size rfl ⟨rfl, rfl⟩ hd_X6_size ⟨Nat.le_of_ble_eq_true rfl, Nat.le_of_ble_eq_true rfl⟩ rfl hl.1 rfl ⟨Nat.sub_le _ _, Nat.sub_le _ _⟩ (Nat.le_of_ble_eq_true rfl) dX11_remark_27 (fun H locs hM => ?_)
      clear ho
      refine lv_icmp_lt (tgt := 43) hx hb dX11_remark_30 (by decide) (fun cc1 => ?_) (fun cc1 => ?_)
      · replace hf := m_ifPT hf cc1
        refine lv_aload_n hx hb dX11_remark_43 rfl (lv_at hl 0 rfl) ?_
        obtain ⟨ca, hf⟩ := m_chkPE hf
        replace ca := z_in hM (by decide) ca
        refine z_get (k := 11) (j := 7) (C := RX11) (T := TX11) (N := 10) (fl := zf_11) (v := va_rf ((zP o6.2 7 x0).map (zh y))) X hw_X11_remark_11 hM rfl zc_11 ca (by decide) fl_X11_remark_11_7 rfl dX11_remark_44 ?_
        clear ca
        obtain ⟨b7, hb9, hf⟩ := m_calPE hf
        refine z_topr hb9 ?_
        clear hb9
        refine lv_iload_n hx hb dX11_remark_47 rfl (lv_at hl 1 rfl) ?_
        obtain ⟨ca, hf⟩ := m_chkPE hf
        replace ca := z_in hM (by decide) ca
        obtain ⟨o8, ho, hf⟩ := m_calPE hf
        refine z_gcallVr (k := 1) (C := RX1) (T := TX1) (N := 8) (fl := zf_1) X hM rfl zc_1 ca (c_X1_at ho) gX11_remark_X1_at rfl ⟨rfl, rfl⟩ hd_X1_at ⟨Nat.le_of_ble_eq_true rfl, Nat.le_of_ble_eq_true rfl⟩ rfl hl.1 rfl ⟨Nat.sub_le _ _, Nat.sub_le _ _⟩ (Nat.le_of_ble_eq_true rfl) dX11_remark_48 (fun H locs hM => ?_)
        clear ho
        obtain ⟨ca, hf⟩ := m_chkPE hf
        replace ca := z_in hM (by decide) ca
        refine z_get (k := 4) (j := 6) (C := RX4) (T := TX4) (N := 7) (fl := zf_4) (v := va_rf ((zP o8.2 6 o8.1).map (zh y))) X hw_X11_remark_4 hM rfl zc_4 ca (by decide) fl_X11_remark_4_6 rfl dX11_remark_51 ?_
        clear ca
        obtain ⟨b9, hb9, hf⟩ := m_calPE hf
        refine z_topr hb9 ?_
        clear hb9
        refine lv_iload_n hx hb dX11_remark_54 rfl (lv_at hl 2 rfl) ?_
        obtain ⟨ca, hf⟩ := m_chkPE hf
        replace ca := z_in hM (by decide) ca
        obtain ⟨o10, ho, hf⟩ := m_calPE hf
        refine z_gcallVi (k := 6) (C := RX6) (T := TX6) (N := 2) (fl := zf_6) X hM rfl zc_6 ca (c_X6_at ho) gX11_remark_X6_at rfl ⟨rfl, rfl⟩ hd_X6_at ⟨Nat.le_of_ble_eq_true rfl, Nat.le_of_ble_eq_true rfl⟩ rfl hl.1 rfl ⟨Nat.sub_le _ _, Nat.sub_le _ _⟩ (Nat.le_of_ble_eq_true rfl) dX11_remark_55 (fun H locs hM => ?_)
        clear ho
        exact hret _ _ _ _ H locs _ ls hf hM rfl dX11_remark_58
      · replace hf := m_ifPF hf cc1
        exact w_X11_remark_33 X hret hthr hf hCT hM (lv_sub hl [] rfl)
def g_X11_remark (x0 : Nat) (x1 : Int32) (x2 : Int32) (S : ZS) (mc ms : Nat) (Pw : Int32 → ZS → Prop) (Px : Nat → ZS → Prop) : Prop := g_X11_remark_0 Pw Px x0 x1 x2 S mc ms
theorem c_X11_remark {l : Launch} {D : va_G} {y : Nat → ClassId} {x0 : Nat} {x1 : Int32} {x2 : Int32} {S : ZS} {kc kt : Nat} {Pw : Int32 → ZS → Prop} {Px : Nat → ZS → Prop} (hlt : l.stackTraces = false) (hf : g_X11_remark x0 x1 x2 S kc kt Pw Px) : zXi l yX11_remark wsX11_remark ({ frames := 6, cells := kc, slots := kt, locals := 90 } : Room) [.ref (zh y x0), .int x1, .int x2] D y S kc kt Pw Px :=
  z_xentI hlt ⟨Nat.le_of_ble_eq_true rfl, Nat.le_of_ble_eq_true rfl⟩ (own := RX11) (cc := cX11_remark) (maxL := 3) (by decide) rfl rfl (Nat.le_of_ble_eq_true rfl) ⟨rfl, rfl⟩ (fun p e s m args below meth c A0 Q H locs ls X hret hthr hM hl => w_X11_remark_0 X hret hthr hf ⟨Nat.le_refl _, Nat.le_refl _⟩ hM (lv_sub hl [0, 1, 2] rfl))
theorem hd_X11_go : yX11_go.cls = RX11 ∧ yX11_go.cls ≠ "java/lang/invoke/MethodHandle" ∧ yX11_go.cls ≠ "java/lang/invoke/VarHandle" ∧ (parseMethodDescriptor yX11_go.desc).map (fun d => d.parameters.length) = some 1 := by decide +kernel
theorem fl_X11_go_11_7 : Cond.fieldLink RX11 57 "MoveTexts" "game" "LMoveTexts$Game;" ∈ wsX11_go := by decide +kernel
theorem fl_X11_go_11_8 : Cond.fieldLink RX11 61 "MoveTexts" "here" "I" ∈ wsX11_go := by decide +kernel
theorem fl_X11_go_11_9 : Cond.fieldLink RX11 68 "MoveTexts" "board" "LMoveTexts$Board;" ∈ wsX11_go := by decide +kernel
theorem hw_X11_go_11 : ∀ w ∈ wsX110, w ∈ wsX11_go := by decide +kernel
theorem sr_X11_go_167 : (RX11, 167, "no such node", 16) ∈ zSR := by decide +kernel
theorem xt_X11_go_2 : zTx RX11 wsX11_go 2 165 169 := ⟨by decide +kernel, fun w hw => List.mem_cons_of_mem _ (List.mem_append_right _ hw), xh_2, xg_2⟩
def g_X11_go_0 (Pw : Int32 → ZS → Prop) (Px : Nat → ZS → Prop) (x0 : Nat) (x1 : Int32) (S : ZS) (C T : Nat) : Prop :=
  m_chkQ (zK S x0 = 11) (
  m_calP (zP S 7 x0) (fun b1 =>
  m_chkQ (zK S b1 = 1) (
  m_calP (f_X1_has b1 x1 S) (fun o2 =>
  m_ifQ (o2.1 = 0) (
  m_thrP (C) (T) 2 o2.2 Px
  ) (
  m_chkQ (zK o2.2 x0 = 11) (
  m_bndP (zsI o2.2 8 x0 x1) (fun S3 =>
  m_chkQ (zK S3 x0 = 11) (
  m_calP (zP S3 7 x0) (fun b4 =>
  m_chkQ (zK S3 x0 = 11) (
  m_calP (zP S3 9 x0) (fun b5 =>
  m_chkQ (zK S3 b4 = 1) (
  m_calP (f_X1_standAt b4 x1 b5 S3) (fun o6 =>
  Pw 0 o6.2))))))))
  )))))

set_option maxRecDepth 100000 in
set_option maxHeartbeats 4000000 in
theorem w_X11_go_0 {p : Program} {l : Launch} {e : Env} {s : State} {m : MethodId} {args : Array Value} {below : List Frame} {meth : Method} {c : Code} {Q : State → Prop} {D : va_G} {y : Nat → ClassId} {A0 : Nat → Prop} {kc kt : Nat} {Pw : Int32 → ZS → Prop} {Px : Nat → ZS → Prop} (X : CallFix p m c cX11_go 2 s args wsX11_go RX11) (hret : zQv p l e ({ frames := 6, cells := kc, slots := kt, locals := 106 } : Room) s m args below meth c Q cX11_go D y A0 Pw) (hthr : zQx p l e ({ frames := 6, cells := kc, slots := kt, locals := 106 } : Room) s m args below meth c Q cX11_go D y A0 Px RX11 wsX11_go) {x0 : Nat} {x1 : Int32} {S : ZS} {C T : Nat} {H : Heap} {locs : List Loc} {ls : Array Slot} (hf : g_X11_go_0 Pw Px x0 x1 S C T) (hCT : C ≤ kc ∧ T ≤ kt) (hM : zH D y A0 s H locs S) (hl : lv_has ls 2 [(0, .ref (zh y x0)), (1, .int x1)]) : W p l e ({ frames := 6, cells := kc, slots := kt, locals := 106 } : Room) s m args below meth c H locs (kc - C) (kt - T) Q (F0 m 0 ls []) := by
  obtain ⟨hx, hb, hml, hown, hts⟩ := id X
  unfold g_X11_go_0 at hf
  refine lv_aload_n hx hb dX11_go_0 rfl (lv_at hl 0 rfl) ?_
  obtain ⟨ca, hf⟩ := m_chkPE hf
  replace ca := z_in hM (by decide) ca
  refine z_get (k := 11) (j := 7) (C := RX11) (T := TX11) (N := 10) (fl := zf_11) (v := va_rf ((zP S 7 x0).map (zh y))) X hw_X11_go_11 hM rfl zc_11 ca (by decide) fl_X11_go_11_7 rfl dX11_go_1 ?_
  clear ca
  obtain ⟨b1, hb9, hf⟩ := m_calPE hf
  refine z_topr hb9 ?_
  clear hb9
  refine lv_iload_n hx hb dX11_go_4 rfl (lv_at hl 1 rfl) ?_
  obtain ⟨ca, hf⟩ := m_chkPE hf
  replace ca := z_in hM (by decide) ca
  obtain ⟨o2, ho, hf⟩ := m_calPE hf
  refine z_gcallVi (k := 1) (C := RX1) (T := TX1) (N := 8) (fl := zf_1) X hM rfl zc_1 ca (c_X1_has ho) gX11_go_X1_has rfl ⟨rfl, rfl⟩ hd_X1_has ⟨Nat.le_of_ble_eq_true rfl, Nat.le_of_ble_eq_true rfl⟩ rfl hl.1 rfl ⟨Nat.sub_le _ _, Nat.sub_le _ _⟩ (Nat.le_of_ble_eq_true rfl) dX11_go_5 (fun H locs hM => ?_)
  clear ho
  refine lv_if_ne (tgt := 21) hx hb dX11_go_8 (by decide) (fun cc1 => ?_) (fun cc1 => ?_)
  · replace hf := m_ifPF hf cc1
    refine lv_aload_n hx hb dX11_go_21 rfl (lv_at hl 0 rfl) ?_
    refine lv_iload_n hx hb dX11_go_22 rfl (lv_at hl 1 rfl) ?_
    obtain ⟨ca, hf⟩ := m_chkPE hf
    replace ca := z_in hM (by decide) ca
    refine z_putI (k := 11) (j := 8) (C := RX11) (T := TX11) (N := 10) (fl := zf_11) (ty := .int) X hw_X11_go_11 tyX11_ok nmX11 hM rfl zc_11 ca (by decide) fl_X11_go_11_8 rfl (tyX11_ok 8 (by decide)) rfl rfl zi_11_8 (Nat.le_of_ble_eq_true rfl) dX11_go_23 (fun H locs hM => ?_)
    clear ca
    obtain ⟨S3, ev, hf⟩ := m_bndPE hf
    replace hM := z_hS hM ev
    clear ev
    refine lv_aload_n hx hb dX11_go_26 rfl (lv_at hl 0 rfl) ?_
    obtain ⟨ca, hf⟩ := m_chkPE hf
    replace ca := z_in hM (by decide) ca
    refine z_get (k := 11) (j := 7) (C := RX11) (T := TX11) (N := 10) (fl := zf_11) (v := va_rf ((zP S3 7 x0).map (zh y))) X hw_X11_go_11 hM rfl zc_11 ca (by decide) fl_X11_go_11_7 rfl dX11_go_27 ?_
    clear ca
    obtain ⟨b4, hb9, hf⟩ := m_calPE hf
    refine z_topr hb9 ?_
    clear hb9
    refine lv_iload_n hx hb dX11_go_30 rfl (lv_at hl 1 rfl) ?_
    refine lv_aload_n hx hb dX11_go_31 rfl (lv_at hl 0 rfl) ?_
    obtain ⟨ca, hf⟩ := m_chkPE hf
    replace ca := z_in hM (by decide) ca
    refine z_get (k := 11) (j := 9) (C := RX11) (T := TX11) (N := 10) (fl := zf_11) (v := va_rf ((zP S3 9 x0).map (zh y))) X hw_X11_go_11 hM rfl zc_11 ca (by decide) fl_X11_go_11_9 rfl dX11_go_32 ?_
    clear ca
    obtain ⟨b5, hb9, hf⟩ := m_calPE hf
    refine z_topr hb9 ?_
    clear hb9
    obtain ⟨ca, hf⟩ := m_chkPE hf
    replace ca := z_in hM (by decide) ca
    obtain ⟨o6, ho, hf⟩ := m_calPE hf
    refine z_gcallVv (k := 1) (C := RX1) (T := TX1) (N := 8) (fl := zf_1) X hM rfl zc_1 ca (c_X1_standAt ho) gX11_go_X1_standAt rfl ⟨rfl, rfl⟩ hd_X1_standAt ⟨Nat.le_of_ble_eq_true rfl, Nat.le_of_ble_eq_true rfl⟩ rfl hl.1 rfl ⟨Nat.sub_le _ _, Nat.sub_le _ _⟩ (Nat.le_of_ble_eq_true rfl) dX11_go_35 (fun H locs hM => ?_)
    clear ho
    exact hret _ _ _ H locs _ ls hf hM dX11_go_38
  · replace hf := m_ifPT hf cc1
    exact hthr 2 _ _ _ H locs _ _ _ _ ls _ _ hf hCT hM (by rw [hml]; exact hl.1) xt_X11_go_2 sr_X11_go_167 ⟨dX11_go_11, dX11_go_14, Or.inl ⟨dX11_go_15, dX11_go_17, dX11_go_20⟩⟩
def g_X11_go (x0 : Nat) (x1 : Int32) (S : ZS) (mc ms : Nat) (Pw : Int32 → ZS → Prop) (Px : Nat → ZS → Prop) : Prop := g_X11_go_0 Pw Px x0 x1 S mc ms
theorem c_X11_go {l : Launch} {D : va_G} {y : Nat → ClassId} {x0 : Nat} {x1 : Int32} {S : ZS} {kc kt : Nat} {Pw : Int32 → ZS → Prop} {Px : Nat → ZS → Prop} (hlt : l.stackTraces = false) (hf : g_X11_go x0 x1 S kc kt Pw Px) : zXv l yX11_go wsX11_go ({ frames := 6, cells := kc, slots := kt, locals := 106 } : Room) [.ref (zh y x0), .int x1] D y S kc kt Pw Px :=
  z_xentV hlt ⟨Nat.le_of_ble_eq_true rfl, Nat.le_of_ble_eq_true rfl⟩ (own := RX11) (cc := cX11_go) (maxL := 2) (by decide) rfl rfl (Nat.le_of_ble_eq_true rfl) ⟨rfl, rfl⟩ (fun p e s m args below meth c A0 Q H locs ls X hret hthr hM hl => w_X11_go_0 X hret hthr hf ⟨Nat.le_refl _, Nat.le_refl _⟩ hM (lv_sub hl [0, 1] rfl))
theorem hd_X11_man : yX11_man.cls = RX11 ∧ yX11_man.cls ≠ "java/lang/invoke/MethodHandle" ∧ yX11_man.cls ≠ "java/lang/invoke/VarHandle" ∧ (parseMethodDescriptor yX11_man.desc).map (fun d => d.parameters.length) = some 1 := by decide +kernel
theorem fl_X11_man_0_0 : Cond.fieldLink RX11 197 "MoveTexts$Board" "men" "[I" ∈ wsX11_man := by decide +kernel
theorem fl_X11_man_11_9 : Cond.fieldLink RX11 68 "MoveTexts" "board" "LMoveTexts$Board;" ∈ wsX11_man := by decide +kernel
theorem hw_X11_man_0 : ∀ w ∈ wsX00, w ∈ wsX11_man := by decide +kernel
theorem hw_X11_man_11 : ∀ w ∈ wsX110, w ∈ wsX11_man := by decide +kernel
theorem sr_X11_man_195 : (RX11, 195, "no such square", 20) ∈ zSR := by decide +kernel
theorem xt_X11_man_2 : zTx RX11 wsX11_man 2 165 169 := ⟨by decide +kernel, fun w hw => List.mem_cons_of_mem _ (List.mem_append_right _ hw), xh_2, xg_2⟩
def g_X11_man_10 (Pw : Int32 → ZS → Prop) (Px : Nat → ZS → Prop) (S : ZS) (C T : Nat) : Prop :=
  m_thrP (C) (T) 2 S Px

set_option maxRecDepth 100000 in
set_option maxHeartbeats 4000000 in
theorem w_X11_man_10 {p : Program} {l : Launch} {e : Env} {s : State} {m : MethodId} {args : Array Value} {below : List Frame} {meth : Method} {c : Code} {Q : State → Prop} {D : va_G} {y : Nat → ClassId} {A0 : Nat → Prop} {kc kt : Nat} {Pw : Int32 → ZS → Prop} {Px : Nat → ZS → Prop} (X : CallFix p m c cX11_man 2 s args wsX11_man RX11) (hret : zQi p l e ({ frames := 6, cells := kc, slots := kt, locals := 90 } : Room) s m args below meth c Q cX11_man D y A0 .int Pw) (hthr : zQx p l e ({ frames := 6, cells := kc, slots := kt, locals := 90 } : Room) s m args below meth c Q cX11_man D y A0 Px RX11 wsX11_man) {S : ZS} {C T : Nat} {H : Heap} {locs : List Loc} {ls : Array Slot} (hf : g_X11_man_10 Pw Px  S C T) (hCT : C ≤ kc ∧ T ≤ kt) (hM : zH D y A0 s H locs S) (hl : lv_has ls 2 []) : W p l e ({ frames := 6, cells := kc, slots := kt, locals := 90 } : Room) s m args below meth c H locs (kc - C) (kt - T) Q (F0 m 10 ls []) := by
  obtain ⟨hx, hb, hml, hown, hts⟩ := id X
  unfold g_X11_man_10 at hf
  exact hthr 2 _ _ _ H locs _ _ _ _ ls _ _ hf hCT hM (by rw [hml]; exact hl.1) xt_X11_man_2 sr_X11_man_195 ⟨dX11_man_10, dX11_man_13, Or.inl ⟨dX11_man_14, dX11_man_16, dX11_man_19⟩⟩
def g_X11_man_0 (Pw : Int32 → ZS → Prop) (Px : Nat → ZS → Prop) (x0 : Nat) (x1 : Int32) (S : ZS) (C T : Nat) : Prop :=
  m_ifQ (x1 < 0) (
  g_X11_man_10 Pw Px  S (C) (T)
  ) (
  m_ifQ (x1 < (64 : Int32)) (
  m_chkQ (zK S x0 = 11) (
  m_calP (zP S 9 x0) (fun b1 =>
  m_chkQ (zK S b1 = 0) (
  m_calP (zP S 0 b1) (fun b2 =>
  m_chkQ (zK S b2 = 14) (
  m_chkQ (¬ (x1 < 0 ∨ zN S b2 ≤ (x1).toNatClampNeg)) (
  m_bndP (zA S b2 (x1).toNatClampNeg) (fun v3 =>
  Pw v3 S)))))))
  ) (
  g_X11_man_10 Pw Px  S (C) (T)
  )
  )

set_option maxRecDepth 100000 in
set_option maxHeartbeats 4000000 in
theorem w_X11_man_0 {p : Program} {l : Launch} {e : Env} {s : State} {m : MethodId} {args : Array Value} {below : List Frame} {meth : Method} {c : Code} {Q : State → Prop} {D : va_G} {y : Nat → ClassId} {A0 : Nat → Prop} {kc kt : Nat} {Pw : Int32 → ZS → Prop} {Px : Nat → ZS → Prop} (X : CallFix p m c cX11_man 2 s args wsX11_man RX11) (hret : zQi p l e ({ frames := 6, cells := kc, slots := kt, locals := 90 } : Room) s m args below meth c Q cX11_man D y A0 .int Pw) (hthr : zQx p l e ({ frames := 6, cells := kc, slots := kt, locals := 90 } : Room) s m args below meth c Q cX11_man D y A0 Px RX11 wsX11_man) {x0 : Nat} {x1 : Int32} {S : ZS} {C T : Nat} {H : Heap} {locs : List Loc} {ls : Array Slot} (hf : g_X11_man_0 Pw Px x0 x1 S C T) (hCT : C ≤ kc ∧ T ≤ kt) (hM : zH D y A0 s H locs S) (hl : lv_has ls 2 [(0, .ref (zh y x0)), (1, .int x1)]) : W p l e ({ frames := 6, cells := kc, slots := kt, locals := 90 } : Room) s m args below meth c H locs (kc - C) (kt - T) Q (F0 m 0 ls []) := by
  obtain ⟨hx, hb, hml, hown, hts⟩ := id X
  unfold g_X11_man_0 at hf
  refine lv_iload_n hx hb dX11_man_0 rfl (lv_at hl 1 rfl) ?_
  refine lv_if_lt (tgt := 10) hx hb dX11_man_1 (by decide) (fun cc1 => ?_) (fun cc1 => ?_)
  · replace hf := m_ifPT hf cc1
    exact w_X11_man_10 X hret hthr hf hCT hM (lv_sub hl [] rfl)
  · replace hf := m_ifPF hf cc1
    refine lv_iload_n hx hb dX11_man_4 rfl (lv_at hl 1 rfl) ?_
    refine lv_bipush (v := (64 : Int32)) hx hb dX11_man_5 (by decide) ?_
    refine lv_icmp_lt (tgt := 20) hx hb dX11_man_7 (by decide) (fun cc1 => ?_) (fun cc1 => ?_)
    · replace hf := m_ifPT hf cc1
      refine lv_aload_n hx hb dX11_man_20 rfl (lv_at hl 0 rfl) ?_
      obtain ⟨ca, hf⟩ := m_chkPE hf
      replace ca := z_in hM (by decide) ca
      refine z_get (k := 11) (j := 9) (C := RX11) (T := TX11) (N := 10) (fl := zf_11) (v := va_rf ((zP S 9 x0).map (zh y))) X hw_X11_man_11 hM rfl zc_11 ca (by decide) fl_X11_man_11_9 rfl dX11_man_21 ?_
      clear ca
      obtain ⟨b1, hb9, hf⟩ := m_calPE hf
      refine z_topr hb9 ?_
      clear hb9
      obtain ⟨ca, hf⟩ := m_chkPE hf
      replace ca := z_in hM (by decide) ca
      refine z_get (k := 0) (j := 0) (C := RX0) (T := TX0) (N := 7) (fl := zf_0) (v := va_rf ((zP S 0 b1).map (zh y))) X hw_X11_man_0 hM rfl zc_0 ca (by decide) fl_X11_man_0_0 rfl dX11_man_24 ?_
      clear ca
      obtain ⟨b2, hb9, hf⟩ := m_calPE hf
      refine z_topr hb9 ?_
      clear hb9
      refine lv_iload_n hx hb dX11_man_27 rfl (lv_at hl 1 rfl) ?_
      obtain ⟨ca, hf⟩ := m_chkPE hf
      replace ca := z_in hM (by decide) ca
      obtain ⟨cd, hf⟩ := m_chkPE hf
      refine z_iald X hM ca cd dX11_man_28 ?_
      clear ca cd
      obtain ⟨v3, ev, hf⟩ := m_bndPE hf
      refine m_top ev ?_
      clear ev
      exact hret _ _ _ _ H locs _ ls hf hM rfl dX11_man_29
    · replace hf := m_ifPF hf cc1
      exact w_X11_man_10 X hret hthr hf hCT hM (lv_sub hl [] rfl)
def g_X11_man (x0 : Nat) (x1 : Int32) (S : ZS) (mc ms : Nat) (Pw : Int32 → ZS → Prop) (Px : Nat → ZS → Prop) : Prop := g_X11_man_0 Pw Px x0 x1 S mc ms
theorem c_X11_man {l : Launch} {D : va_G} {y : Nat → ClassId} {x0 : Nat} {x1 : Int32} {S : ZS} {kc kt : Nat} {Pw : Int32 → ZS → Prop} {Px : Nat → ZS → Prop} (hlt : l.stackTraces = false) (hf : g_X11_man x0 x1 S kc kt Pw Px) : zXi l yX11_man wsX11_man ({ frames := 6, cells := kc, slots := kt, locals := 90 } : Room) [.ref (zh y x0), .int x1] D y S kc kt Pw Px :=
  z_xentI hlt ⟨Nat.le_of_ble_eq_true rfl, Nat.le_of_ble_eq_true rfl⟩ (own := RX11) (cc := cX11_man) (maxL := 2) (by decide) rfl rfl (Nat.le_of_ble_eq_true rfl) ⟨rfl, rfl⟩ (fun p e s m args below meth c A0 Q H locs ls X hret hthr hM hl => w_X11_man_0 X hret hthr hf ⟨Nat.le_refl _, Nat.le_refl _⟩ hM (lv_sub hl [0, 1] rfl))
theorem hd_X11_add : yX11_add.cls = RX11 ∧ yX11_add.cls ≠ "java/lang/invoke/MethodHandle" ∧ yX11_add.cls ≠ "java/lang/invoke/VarHandle" ∧ (parseMethodDescriptor yX11_add.desc).map (fun d => d.parameters.length) = some 1 := by decide +kernel
theorem fl_X11_add_11_2 : Cond.fieldLink RX11 22 "MoveTexts" "rules" "LMoveTexts$Rules;" ∈ wsX11_add := by decide +kernel
theorem fl_X11_add_11_7 : Cond.fieldLink RX11 57 "MoveTexts" "game" "LMoveTexts$Game;" ∈ wsX11_add := by decide +kernel
theorem fl_X11_add_11_8 : Cond.fieldLink RX11 61 "MoveTexts" "here" "I" ∈ wsX11_add := by decide +kernel
theorem fl_X11_add_11_9 : Cond.fieldLink RX11 68 "MoveTexts" "board" "LMoveTexts$Board;" ∈ wsX11_add := by decide +kernel
theorem fl_X11_add_1_3 : Cond.fieldLink RX11 158 "MoveTexts$Game" "greatest" "I" ∈ wsX11_add := by decide +kernel
theorem hw_X11_add_1 : ∀ w ∈ wsX10, w ∈ wsX11_add := by decide +kernel
theorem hw_X11_add_11 : ∀ w ∈ wsX110, w ∈ wsX11_add := by decide +kernel
theorem sr_X11_add_146 : (RX11, 146, "not a legal move", 15) ∈ zSR := by decide +kernel
theorem sr_X11_add_214 : (RX11, 214, "no room for a new node", 21) ∈ zSR := by decide +kernel
theorem xt_X11_add_1 : zTx RX11 wsX11_add 1 144 148 := ⟨by decide +kernel, fun w hw => List.mem_cons_of_mem _ (List.mem_append_left _ (List.mem_append_right _ hw)), xh_1, xg_1⟩
theorem xt_X11_add_3 : zTx RX11 wsX11_add 3 212 216 := ⟨by decide +kernel, fun w hw => List.mem_cons_of_mem _ (List.mem_append_right _ hw), xh_3, xg_3⟩
def g_X11_add_95 (Pw : Int32 → ZS → Prop) (Px : Nat → ZS → Prop) (x0 : Nat) (x1 : Int32) (x2 : Int32) (S : ZS) (C T : Nat) : Prop :=
  m_chkQ (zK S x0 = 11) (
  m_bndP (zsI S 8 x0 x2) (fun S1 =>
  m_chkQ (zK S1 x0 = 11) (
  m_calP (zP S1 9 x0) (fun b2 =>
  m_chkQ (zK S1 b2 = 0) (
  m_calP (f_X0_play b2 x1 S1) (fun o3 =>
  Pw x2 o3.2))))))

set_option maxRecDepth 100000 in
set_option maxHeartbeats 4000000 in
theorem w_X11_add_95 {p : Program} {l : Launch} {e : Env} {s : State} {m : MethodId} {args : Array Value} {below : List Frame} {meth : Method} {c : Code} {Q : State → Prop} {D : va_G} {y : Nat → ClassId} {A0 : Nat → Prop} {kc kt : Nat} {Pw : Int32 → ZS → Prop} {Px : Nat → ZS → Prop} (X : CallFix p m c cX11_add 3 s args wsX11_add RX11) (hret : zQi p l e ({ frames := 6, cells := kc, slots := kt, locals := 131 } : Room) s m args below meth c Q cX11_add D y A0 .int Pw) (hthr : zQx p l e ({ frames := 6, cells := kc, slots := kt, locals := 131 } : Room) s m args below meth c Q cX11_add D y A0 Px RX11 wsX11_add) {x0 : Nat} {x1 : Int32} {x2 : Int32} {S : ZS} {C T : Nat} {H : Heap} {locs : List Loc} {ls : Array Slot} (hf : g_X11_add_95 Pw Px x0 x1 x2 S C T) (hCT : C ≤ kc ∧ T ≤ kt) (hM : zH D y A0 s H locs S) (hl : lv_has ls 3 [(0, .ref (zh y x0)), (1, .int x1), (2, .int x2)]) : W p l e ({ frames := 6, cells := kc, slots := kt, locals := 131 } : Room) s m args below meth c H locs (kc - C) (kt - T) Q (F0 m 95 ls []) := by
  obtain ⟨hx, hb, hml, hown, hts⟩ := id X
  unfold g_X11_add_95 at hf
  refine lv_aload_n hx hb dX11_add_95 rfl (lv_at hl 0 rfl) ?_
  refine lv_iload_n hx hb dX11_add_96 rfl (lv_at hl 2 rfl) ?_
  obtain ⟨ca, hf⟩ := m_chkPE hf
  replace ca := z_in hM (by decide) ca
  refine z_putI (k := 11) (j := 8) (C := RX11) (T := TX11) (N := 10) (fl := zf_11) (ty := .int) X hw_X11_add_11 tyX11_ok nmX11 hM rfl zc_11 ca (by decide) fl_X11_add_11_8 rfl (tyX11_ok 8 (by decide)) rfl rfl zi_11_8 (Nat.le_of_ble_eq_true rfl) dX11_add_97 (fun H locs hM => ?_)
  clear ca
  obtain ⟨S1, ev, hf⟩ := m_bndPE hf
  replace hM := z_hS hM ev
  clear ev
  refine lv_aload_n hx hb dX11_add_100 rfl (lv_at hl 0 rfl) ?_
  obtain ⟨ca, hf⟩ := m_chkPE hf
  replace ca := z_in hM (by decide) ca
  refine z_get (k := 11) (j := 9) (C := RX11) (T := TX11) (N := 10) (fl := zf_11) (v := va_rf ((zP S1 9 x0).map (zh y))) X hw_X11_add_11 hM rfl zc_11 ca (by decide) fl_X11_add_11_9 rfl dX11_add_101 ?_
  clear ca
  obtain ⟨b2, hb9, hf⟩ := m_calPE hf
  refine z_topr hb9 ?_
  clear hb9
  refine lv_iload_n hx hb dX11_add_104 rfl (lv_at hl 1 rfl) ?_
  obtain ⟨ca, hf⟩ := m_chkPE hf
  replace ca := z_in hM (by decide) ca
  obtain ⟨o3, ho, hf⟩ := m_calPE hf
  refine z_gcallVv (k := 0) (C := RX0) (T := TX0) (N := 7) (fl := zf_0) X hM rfl zc_0 ca (c_X0_play ho) gX11_add_X0_play rfl ⟨rfl, rfl⟩ hd_X0_play ⟨Nat.le_of_ble_eq_true rfl, Nat.le_of_ble_eq_true rfl⟩ rfl hl.1 rfl ⟨Nat.sub_le _ _, Nat.sub_le _ _⟩ (Nat.le_of_ble_eq_true rfl) dX11_add_105 (fun H locs hM => ?_)
  clear ho
  refine lv_iload_n hx hb dX11_add_108 rfl (lv_at hl 2 rfl) ?_
  exact hret _ _ _ _ H locs _ ls hf hM rfl dX11_add_109
def g_X11_add_72 (Pw : Int32 → ZS → Prop) (Px : Nat → ZS → Prop) (S : ZS) (C T : Nat) : Prop :=
  m_thrP (C) (T) 3 S Px

set_option maxRecDepth 100000 in
set_option maxHeartbeats 4000000 in
theorem w_X11_add_72 {p : Program} {l : Launch} {e : Env} {s : State} {m : MethodId} {args : Array Value} {below : List Frame} {meth : Method} {c : Code} {Q : State → Prop} {D : va_G} {y : Nat → ClassId} {A0 : Nat → Prop} {kc kt : Nat} {Pw : Int32 → ZS → Prop} {Px : Nat → ZS → Prop} (X : CallFix p m c cX11_add 3 s args wsX11_add RX11) (hret : zQi p l e ({ frames := 6, cells := kc, slots := kt, locals := 131 } : Room) s m args below meth c Q cX11_add D y A0 .int Pw) (hthr : zQx p l e ({ frames := 6, cells := kc, slots := kt, locals := 131 } : Room) s m args below meth c Q cX11_add D y A0 Px RX11 wsX11_add) {S : ZS} {C T : Nat} {H : Heap} {locs : List Loc} {ls : Array Slot} (hf : g_X11_add_72 Pw Px  S C T) (hCT : C ≤ kc ∧ T ≤ kt) (hM : zH D y A0 s H locs S) (hl : lv_has ls 3 []) : W p l e ({ frames := 6, cells := kc, slots := kt, locals := 131 } : Room) s m args below meth c H locs (kc - C) (kt - T) Q (F0 m 72 ls []) := by
  obtain ⟨hx, hb, hml, hown, hts⟩ := id X
  unfold g_X11_add_72 at hf
  exact hthr 3 _ _ _ H locs _ _ _ _ ls _ _ hf hCT hM (by rw [hml]; exact hl.1) xt_X11_add_3 sr_X11_add_214 ⟨dX11_add_72, dX11_add_75, Or.inl ⟨dX11_add_76, dX11_add_78, dX11_add_81⟩⟩
def g_X11_add_0 (Pw : Int32 → ZS → Prop) (Px : Nat → ZS → Prop) (x0 : Nat) (x1 : Int32) (S : ZS) (C T : Nat) : Prop :=
  m_chkQ (zK S x0 = 11) (
  m_calP (zP S 2 x0) (fun b1 =>
  m_chkQ (zK S x0 = 11) (
  m_calP (zP S 9 x0) (fun b2 =>
  m_chkQ (zK S b1 = 7) (
  m_calP (f_X7_isLegal b1 b2 x1 S) (fun o3 =>
  m_ifQ (o3.1 = 0) (
  m_thrP (C) (T) 1 o3.2 Px
  ) (
  m_chkQ (zK o3.2 x0 = 11) (
  m_calP (zP o3.2 7 x0) (fun b4 =>
  m_chkQ (zK o3.2 x0 = 11) (
  m_chkQ (zK o3.2 b4 = 1) (
  m_calP (f_X1_childWith b4 (zI o3.2 8 x0) x1 o3.2) (fun o5 =>
  m_ifQ (o5.1 = (-1 : Int32)) (
  m_chkQ (zK o5.2 x0 = 11) (
  m_calP (zP o5.2 7 x0) (fun b6 =>
  m_chkQ (zK o5.2 b6 = 1) (
  m_ifQ ((300 : Int32) ≤ (zI o5.2 3 b6)) (
  g_X11_add_72 Pw Px  o5.2 (C) (T)
  ) (
  m_chkQ (zK o5.2 x0 = 11) (
  m_calP (zP o5.2 7 x0) (fun b7 =>
  m_chkQ (zK o5.2 x0 = 11) (
  m_chkQ (zK o5.2 b7 = 1) (
  m_calP (f_X1_deepOfNext b7 (zI o5.2 8 x0) o5.2) (fun o8 =>
  m_ifQ (o8.1 ≤ (6 : Int32)) (
  m_chkQ (zK o8.2 x0 = 11) (
  m_calP (zP o8.2 7 x0) (fun b9 =>
  m_chkQ (zK o8.2 x0 = 11) (
  m_chkQ (zK o8.2 b9 = 1) (
  m_gal (C) (T) (fun mc ms Pw => g_X1_grow b9 (zI o8.2 8 x0) x1 o8.2 mc ms Pw) (fun r11 S12 C13 T14 =>
  g_X11_add_95 Pw Px x0 x1 r11 S12 (C13) (T14))))))
  ) (
  g_X11_add_72 Pw Px  o8.2 (C) (T)
  ))))))
  ))))
  ) (
  g_X11_add_95 Pw Px x0 x1 o5.1 o5.2 (C) (T)
  ))))))
  )))))))

set_option maxRecDepth 100000 in
set_option maxHeartbeats 4000000 in
theorem w_X11_add_0 {p : Program} {l : Launch} {e : Env} {s : State} {m : MethodId} {args : Array Value} {below : List Frame} {meth : Method} {c : Code} {Q : State → Prop} {D : va_G} {y : Nat → ClassId} {A0 : Nat → Prop} {kc kt : Nat} {Pw : Int32 → ZS → Prop} {Px : Nat → ZS → Prop} (X : CallFix p m c cX11_add 3 s args wsX11_add RX11) (hret : zQi p l e ({ frames := 6, cells := kc, slots := kt, locals := 131 } : Room) s m args below meth c Q cX11_add D y A0 .int Pw) (hthr : zQx p l e ({ frames := 6, cells := kc, slots := kt, locals := 131 } : Room) s m args below meth c Q cX11_add D y A0 Px RX11 wsX11_add) {x0 : Nat} {x1 : Int32} {S : ZS} {C T : Nat} {H : Heap} {locs : List Loc} {ls : Array Slot} (hf : g_X11_add_0 Pw Px x0 x1 S C T) (hCT : C ≤ kc ∧ T ≤ kt) (hM : zH D y A0 s H locs S) (hl : lv_has ls 3 [(0, .ref (zh y x0)), (1, .int x1)]) : W p l e ({ frames := 6, cells := kc, slots := kt, locals := 131 } : Room) s m args below meth c H locs (kc - C) (kt - T) Q (F0 m 0 ls []) := by
  obtain ⟨hx, hb, hml, hown, hts⟩ := id X
  unfold g_X11_add_0 at hf
  refine lv_aload_n hx hb dX11_add_0 rfl (lv_at hl 0 rfl) ?_
  obtain ⟨ca, hf⟩ := m_chkPE hf
  replace ca := z_in hM (by decide) ca
  refine z_get (k := 11) (j := 2) (C := RX11) (T := TX11) (N := 10) (fl := zf_11) (v := va_rf ((zP S 2 x0).map (zh y))) X hw_X11_add_11 hM rfl zc_11 ca (by decide) fl_X11_add_11_2 rfl dX11_add_1 ?_
  clear ca
  obtain ⟨b1, hb9, hf⟩ := m_calPE hf
  refine z_topr hb9 ?_
  clear hb9
  refine lv_aload_n hx hb dX11_add_4 rfl (lv_at hl 0 rfl) ?_
  obtain ⟨ca, hf⟩ := m_chkPE hf
  replace ca := z_in hM (by decide) ca
  refine z_get (k := 11) (j := 9) (C := RX11) (T := TX11) (N := 10) (fl := zf_11) (v := va_rf ((zP S 9 x0).map (zh y))) X hw_X11_add_11 hM rfl zc_11 ca (by decide) fl_X11_add_11_9 rfl dX11_add_5 ?_
  clear ca
  obtain ⟨b2, hb9, hf⟩ := m_calPE hf
  refine z_topr hb9 ?_
  clear hb9
  refine lv_iload_n hx hb dX11_add_8 rfl (lv_at hl 1 rfl) ?_
  obtain ⟨ca, hf⟩ := m_chkPE hf
  replace ca := z_in hM (by decide) ca
  obtain ⟨o3, ho, hf⟩ := m_calPE hf
  refine z_gcallVi (k := 7) (C := RX7) (T := TX7) (N := 2) (fl := zf_7) X hM rfl zc_7 ca (c_X7_isLegal ho) gX11_add_X7_isLegal rfl ⟨rfl, rfl⟩ hd_X7_isLegal ⟨Nat.le_of_ble_eq_true rfl, Nat.le_of_ble_eq_true rfl⟩ rfl hl.1 rfl ⟨Nat.sub_le _ _, Nat.sub_le _ _⟩ (Nat.le_of_ble_eq_true rfl) dX11_add_9 (fun H locs hM => ?_)
  clear ho
  refine lv_if_ne (tgt := 25) hx hb dX11_add_12 (by decide) (fun cc1 => ?_) (fun cc1 => ?_)
  · replace hf := m_ifPF hf cc1
    refine lv_aload_n hx hb dX11_add_25 rfl (lv_at hl 0 rfl) ?_
    obtain ⟨ca, hf⟩ := m_chkPE hf
    replace ca := z_in hM (by decide) ca
    refine z_get (k := 11) (j := 7) (C := RX11) (T := TX11) (N := 10) (fl := zf_11) (v := va_rf ((zP o3.2 7 x0).map (zh y))) X hw_X11_add_11 hM rfl zc_11 ca (by decide) fl_X11_add_11_7 rfl dX11_add_26 ?_
    clear ca
    obtain ⟨b4, hb9, hf⟩ := m_calPE hf
    refine z_topr hb9 ?_
    clear hb9
    refine lv_aload_n hx hb dX11_add_29 rfl (lv_at hl 0 rfl) ?_
    obtain ⟨ca, hf⟩ := m_chkPE hf
    replace ca := z_in hM (by decide) ca
    refine z_get (k := 11) (j := 8) (C := RX11) (T := TX11) (N := 10) (fl := zf_11) (v := .int (zI o3.2 8 x0)) X hw_X11_add_11 hM rfl zc_11 ca (by decide) fl_X11_add_11_8 rfl dX11_add_30 ?_
    clear ca
    refine lv_iload_n hx hb dX11_add_33 rfl (lv_at hl 1 rfl) ?_
    obtain ⟨ca, hf⟩ := m_chkPE hf
    replace ca := z_in hM (by decide) ca
    obtain ⟨o5, ho, hf⟩ := m_calPE hf
    refine z_gcallVi (k := 1) (C := RX1) (T := TX1) (N := 8) (fl := zf_1) X hM rfl zc_1 ca (c_X1_childWith ho) gX11_add_X1_childWith rfl ⟨rfl, rfl⟩ hd_X1_childWith ⟨Nat.le_of_ble_eq_true rfl, Nat.le_of_ble_eq_true rfl⟩ rfl hl.1 rfl ⟨Nat.sub_le _ _, Nat.sub_le _ _⟩ (Nat.le_of_ble_eq_true rfl) dX11_add_34 (fun H locs hM => ?_)
    clear ho
    refine lv_istore_n (lv' := [(2, .int o5.1), (0, .ref (zh y x0)), (1, .int x1)]) hx hb dX11_add_37 rfl hl (by decide) rfl (fun ls hl => ?_)
    refine lv_iload_n hx hb dX11_add_38 rfl (lv_at hl 0 rfl) ?_
    refine lv_iconst (v := (-1 : Int32)) hx hb dX11_add_39 (by decide) ?_
    refine lv_icmp_ne (tgt := 95) hx hb dX11_add_40 (by decide) (fun cc1 => ?_) (fun cc1 => ?_)
    · replace hf := m_ifPF hf cc1
      exact w_X11_add_95 (x0 := x0) (x1 := x1) (x2 := o5.1) X hret hthr hf hCT hM (lv_sub hl [1, 2, 0] rfl)
    · replace hf := m_ifPT hf cc1
      refine lv_aload_n hx hb dX11_add_43 rfl (lv_at hl 1 rfl) ?_
      obtain ⟨ca, hf⟩ := m_chkPE hf
      replace ca := z_in hM (by decide) ca
      refine z_get (k := 11) (j := 7) (C := RX11) (T := TX11) (N := 10) (fl := zf_11) (v := va_rf ((zP o5.2 7 x0).map (zh y))) X hw_X11_add_11 hM rfl zc_11 ca (by decide) fl_X11_add_11_7 rfl dX11_add_44 ?_
      clear ca
      obtain ⟨b6, hb9, hf⟩ := m_calPE hf
      refine z_topr hb9 ?_
      clear hb9
      obtain ⟨ca, hf⟩ := m_chkPE hf
      replace ca := z_in hM (by decide) ca
      refine z_get (k := 1) (j := 3) (C := RX1) (T := TX1) (N := 8) (fl := zf_1) (v := .int (zI o5.2 3 b6)) X hw_X11_add_1 hM rfl zc_1 ca (by decide) fl_X11_add_1_3 rfl dX11_add_47 ?_
      clear ca
      refine lv_sipush (v := (300 : Int32)) hx hb dX11_add_50 (by decide) ?_
      refine lv_icmp_ge (tgt := 72) hx hb dX11_add_53 (by decide) (fun cc1 => ?_) (fun cc1 => ?_)
      · replace hf := m_ifPT hf cc1
        exact w_X11_add_72 X hret hthr hf hCT hM (lv_sub hl [] rfl)
      · replace hf := m_ifPF hf cc1
        refine lv_aload_n hx hb dX11_add_56 rfl (lv_at hl 1 rfl) ?_
        obtain ⟨ca, hf⟩ := m_chkPE hf
        replace ca := z_in hM (by decide) ca
        refine z_get (k := 11) (j := 7) (C := RX11) (T := TX11) (N := 10) (fl := zf_11) (v := va_rf ((zP o5.2 7 x0).map (zh y))) X hw_X11_add_11 hM rfl zc_11 ca (by decide) fl_X11_add_11_7 rfl dX11_add_57 ?_
        clear ca
        obtain ⟨b7, hb9, hf⟩ := m_calPE hf
        refine z_topr hb9 ?_
        clear hb9
        refine lv_aload_n hx hb dX11_add_60 rfl (lv_at hl 1 rfl) ?_
        obtain ⟨ca, hf⟩ := m_chkPE hf
        replace ca := z_in hM (by decide) ca
        refine z_get (k := 11) (j := 8) (C := RX11) (T := TX11) (N := 10) (fl := zf_11) (v := .int (zI o5.2 8 x0)) X hw_X11_add_11 hM rfl zc_11 ca (by decide) fl_X11_add_11_8 rfl dX11_add_61 ?_
        clear ca
        obtain ⟨ca, hf⟩ := m_chkPE hf
        replace ca := z_in hM (by decide) ca
        obtain ⟨o8, ho, hf⟩ := m_calPE hf
        refine z_gcallVi (k := 1) (C := RX1) (T := TX1) (N := 8) (fl := zf_1) X hM rfl zc_1 ca (c_X1_deepOfNext ho) gX11_add_X1_deepOfNext rfl ⟨rfl, rfl⟩ hd_X1_deepOfNext ⟨Nat.le_of_ble_eq_true rfl, Nat.le_of_ble_eq_true rfl⟩ rfl hl.1 rfl ⟨Nat.sub_le _ _, Nat.sub_le _ _⟩ (Nat.le_of_ble_eq_true rfl) dX11_add_64 (fun H locs hM => ?_)
        clear ho
        refine lv_bipush (v := (6 : Int32)) hx hb dX11_add_67 (by decide) ?_
        refine lv_icmp_le (tgt := 82) hx hb dX11_add_69 (by decide) (fun cc1 => ?_) (fun cc1 => ?_)
        · replace hf := m_ifPT hf cc1
          refine lv_aload_n hx hb dX11_add_82 rfl (lv_at hl 1 rfl) ?_
          obtain ⟨ca, hf⟩ := m_chkPE hf
          replace ca := z_in hM (by decide) ca
          refine z_get (k := 11) (j := 7) (C := RX11) (T := TX11) (N := 10) (fl := zf_11) (v := va_rf ((zP o8.2 7 x0).map (zh y))) X hw_X11_add_11 hM rfl zc_11 ca (by decide) fl_X11_add_11_7 rfl dX11_add_83 ?_
          clear ca
          obtain ⟨b9, hb9, hf⟩ := m_calPE hf
          refine z_topr hb9 ?_
          clear hb9
          refine lv_aload_n hx hb dX11_add_86 rfl (lv_at hl 1 rfl) ?_
          obtain ⟨ca, hf⟩ := m_chkPE hf
          replace ca := z_in hM (by decide) ca
          refine z_get (k := 11) (j := 8) (C := RX11) (T := TX11) (N := 10) (fl := zf_11) (v := .int (zI o8.2 8 x0)) X hw_X11_add_11 hM rfl zc_11 ca (by decide) fl_X11_add_11_8 rfl dX11_add_87 ?_
          clear ca
          refine lv_iload_n hx hb dX11_add_90 rfl (lv_at hl 2 rfl) ?_
          obtain ⟨ca, hf⟩ := m_chkPE hf
          replace ca := z_in hM (by decide) ca
          obtain ⟨mc, ms, hcm, ho⟩ := m_galE hf
          refine z_wcallVi (k := 1) (C := RX1) (T := TX1) (N := 8) (fl := zf_1) X hM rfl zc_1 ca (c_X1_grow ho) gX11_add_X1_grow rfl ⟨rfl, rfl⟩ ⟨by show kc - (C) + mc ≤ kc; omega, by show kt - (T) + ms ≤ kt; omega⟩ hd_X1_grow ⟨Nat.le_of_ble_eq_true rfl, Nat.le_of_ble_eq_true rfl⟩ rfl hl.1 rfl (Nat.le_of_ble_eq_true rfl) dX11_add_91 (fun r11 S12 H locs hf hM => ?_)
          refine z_eqCS (c2 := kc - (C - mc)) (t2 := kt - (T - ms)) (by omega) (by omega) ?_
          replace hCT : C - mc ≤ kc ∧ T - ms ≤ kt := by omega
          generalize C - mc = C13 at hf hCT ⊢
          generalize T - ms = T14 at hf hCT ⊢
          clear ho hcm
          refine lv_istore_n (lv' := [(2, .int r11), (0, .ref (zh y x0)), (1, .int x1)]) hx hb dX11_add_94 rfl hl (by decide) rfl (fun ls hl => ?_)
          exact w_X11_add_95 (x0 := x0) (x1 := x1) (x2 := r11) X hret hthr hf hCT hM (lv_sub hl [1, 2, 0] rfl)
        · replace hf := m_ifPF hf cc1
          exact w_X11_add_72 X hret hthr hf hCT hM (lv_sub hl [] rfl)
  · replace hf := m_ifPT hf cc1
    exact hthr 1 _ _ _ H locs _ _ _ _ ls _ _ hf hCT hM (by rw [hml]; exact hl.1) xt_X11_add_1 sr_X11_add_146 ⟨dX11_add_15, dX11_add_18, Or.inl ⟨dX11_add_19, dX11_add_21, dX11_add_24⟩⟩
def g_X11_add (x0 : Nat) (x1 : Int32) (S : ZS) (mc ms : Nat) (Pw : Int32 → ZS → Prop) (Px : Nat → ZS → Prop) : Prop := g_X11_add_0 Pw Px x0 x1 S mc ms
theorem c_X11_add {l : Launch} {D : va_G} {y : Nat → ClassId} {x0 : Nat} {x1 : Int32} {S : ZS} {kc kt : Nat} {Pw : Int32 → ZS → Prop} {Px : Nat → ZS → Prop} (hlt : l.stackTraces = false) (hf : g_X11_add x0 x1 S kc kt Pw Px) : zXi l yX11_add wsX11_add ({ frames := 6, cells := kc, slots := kt, locals := 131 } : Room) [.ref (zh y x0), .int x1] D y S kc kt Pw Px :=
  z_xentI hlt ⟨Nat.le_of_ble_eq_true rfl, Nat.le_of_ble_eq_true rfl⟩ (own := RX11) (cc := cX11_add) (maxL := 3) (by decide) rfl rfl (Nat.le_of_ble_eq_true rfl) ⟨rfl, rfl⟩ (fun p e s m args below meth c A0 Q H locs ls X hret hthr hM hl => w_X11_add_0 X hret hthr hf ⟨Nat.le_refl _, Nat.le_refl _⟩ hM (lv_sub hl [0, 1] rfl))
theorem hd_X11_addMark : yX11_addMark.cls = RX11 ∧ yX11_addMark.cls ≠ "java/lang/invoke/MethodHandle" ∧ yX11_addMark.cls ≠ "java/lang/invoke/VarHandle" ∧ (parseMethodDescriptor yX11_addMark.desc).map (fun d => d.parameters.length) = some 1 := by decide +kernel
theorem fl_X11_addMark_11_7 : Cond.fieldLink RX11 57 "MoveTexts" "game" "LMoveTexts$Game;" ∈ wsX11_addMark := by decide +kernel
theorem fl_X11_addMark_11_8 : Cond.fieldLink RX11 61 "MoveTexts" "here" "I" ∈ wsX11_addMark := by decide +kernel
theorem fl_X11_addMark_4_4 : Cond.fieldLink RX11 179 "MoveTexts$Node" "markCount" "I" ∈ wsX11_addMark := by decide +kernel
theorem hw_X11_addMark_11 : ∀ w ∈ wsX110, w ∈ wsX11_addMark := by decide +kernel
theorem hw_X11_addMark_4 : ∀ w ∈ wsX40, w ∈ wsX11_addMark := by decide +kernel
theorem sr_X11_addMark_223 : (RX11, 223, "not a mark", 22) ∈ zSR := by decide +kernel
theorem sr_X11_addMark_227 : (RX11, 227, "no room for a mark", 23) ∈ zSR := by decide +kernel
theorem xt_X11_addMark_1 : zTx RX11 wsX11_addMark 1 144 148 := ⟨by decide +kernel, fun w hw => List.mem_cons_of_mem _ (List.mem_append_left _ (List.mem_append_right _ hw)), xh_1, xg_1⟩
theorem xt_X11_addMark_4 : zTx RX11 wsX11_addMark 4 225 229 := ⟨by decide +kernel, fun w hw => List.mem_cons_of_mem _ (List.mem_append_right _ hw), xh_4, xg_4⟩
def g_X11_addMark_11 (Pw : Int32 → ZS → Prop) (Px : Nat → ZS → Prop) (S : ZS) (C T : Nat) : Prop :=
  m_thrP (C) (T) 1 S Px

set_option maxRecDepth 100000 in
set_option maxHeartbeats 4000000 in
theorem w_X11_addMark_11 {p : Program} {l : Launch} {e : Env} {s : State} {m : MethodId} {args : Array Value} {below : List Frame} {meth : Method} {c : Code} {Q : State → Prop} {D : va_G} {y : Nat → ClassId} {A0 : Nat → Prop} {kc kt : Nat} {Pw : Int32 → ZS → Prop} {Px : Nat → ZS → Prop} (X : CallFix p m c cX11_addMark 3 s args wsX11_addMark RX11) (hret : zQi p l e ({ frames := 6, cells := kc, slots := kt, locals := 90 } : Room) s m args below meth c Q cX11_addMark D y A0 .int Pw) (hthr : zQx p l e ({ frames := 6, cells := kc, slots := kt, locals := 90 } : Room) s m args below meth c Q cX11_addMark D y A0 Px RX11 wsX11_addMark) {S : ZS} {C T : Nat} {H : Heap} {locs : List Loc} {ls : Array Slot} (hf : g_X11_addMark_11 Pw Px  S C T) (hCT : C ≤ kc ∧ T ≤ kt) (hM : zH D y A0 s H locs S) (hl : lv_has ls 3 []) : W p l e ({ frames := 6, cells := kc, slots := kt, locals := 90 } : Room) s m args below meth c H locs (kc - C) (kt - T) Q (F0 m 11 ls []) := by
  obtain ⟨hx, hb, hml, hown, hts⟩ := id X
  unfold g_X11_addMark_11 at hf
  exact hthr 1 _ _ _ H locs _ _ _ _ ls _ _ hf hCT hM (by rw [hml]; exact hl.1) xt_X11_addMark_1 sr_X11_addMark_223 ⟨dX11_addMark_11, dX11_addMark_14, Or.inl ⟨dX11_addMark_15, dX11_addMark_17, dX11_addMark_20⟩⟩
def g_X11_addMark_48 (Pw : Int32 → ZS → Prop) (Px : Nat → ZS → Prop) (S : ZS) (C T : Nat) : Prop :=
  m_thrP (C) (T) 4 S Px

set_option maxRecDepth 100000 in
set_option maxHeartbeats 4000000 in
theorem w_X11_addMark_48 {p : Program} {l : Launch} {e : Env} {s : State} {m : MethodId} {args : Array Value} {below : List Frame} {meth : Method} {c : Code} {Q : State → Prop} {D : va_G} {y : Nat → ClassId} {A0 : Nat → Prop} {kc kt : Nat} {Pw : Int32 → ZS → Prop} {Px : Nat → ZS → Prop} (X : CallFix p m c cX11_addMark 3 s args wsX11_addMark RX11) (hret : zQi p l e ({ frames := 6, cells := kc, slots := kt, locals := 90 } : Room) s m args below meth c Q cX11_addMark D y A0 .int Pw) (hthr : zQx p l e ({ frames := 6, cells := kc, slots := kt, locals := 90 } : Room) s m args below meth c Q cX11_addMark D y A0 Px RX11 wsX11_addMark) {S : ZS} {C T : Nat} {H : Heap} {locs : List Loc} {ls : Array Slot} (hf : g_X11_addMark_48 Pw Px  S C T) (hCT : C ≤ kc ∧ T ≤ kt) (hM : zH D y A0 s H locs S) (hl : lv_has ls 3 []) : W p l e ({ frames := 6, cells := kc, slots := kt, locals := 90 } : Room) s m args below meth c H locs (kc - C) (kt - T) Q (F0 m 48 ls []) := by
  obtain ⟨hx, hb, hml, hown, hts⟩ := id X
  unfold g_X11_addMark_48 at hf
  exact hthr 4 _ _ _ H locs _ _ _ _ ls _ _ hf hCT hM (by rw [hml]; exact hl.1) xt_X11_addMark_4 sr_X11_addMark_227 ⟨dX11_addMark_48, dX11_addMark_51, Or.inl ⟨dX11_addMark_52, dX11_addMark_54, dX11_addMark_57⟩⟩
def g_X11_addMark_0 (Pw : Int32 → ZS → Prop) (Px : Nat → ZS → Prop) (x0 : Nat) (x1 : Int32) (S : ZS) (C T : Nat) : Prop :=
  m_ifQ (x1 < 0) (
  g_X11_addMark_11 Pw Px  S (C) (T)
  ) (
  m_ifQ (x1 ≤ (255 : Int32)) (
  m_chkQ (zK S x0 = 11) (
  m_calP (zP S 7 x0) (fun b1 =>
  m_chkQ (zK S x0 = 11) (
  m_chkQ (zK S b1 = 1) (
  m_calP (f_X1_at b1 (zI S 8 x0) S) (fun o2 =>
  m_chkQ (zK o2.2 x0 = 11) (
  m_ifQ ((zI o2.2 8 x0) = 0) (
  g_X11_addMark_48 Pw Px  o2.2 (C) (T)
  ) (
  m_chkQ (zK o2.2 o2.1 = 4) (
  m_ifQ ((zI o2.2 4 o2.1) < (4 : Int32)) (
  m_chkQ (zK o2.2 o2.1 = 4) (
  m_calP (f_X4_putMark o2.1 x1 o2.2) (fun o3 =>
  m_chkQ (zK o3.2 o2.1 = 4) (
  Pw (zI o3.2 4 o2.1) o3.2)))
  ) (
  g_X11_addMark_48 Pw Px  o2.2 (C) (T)
  ))
  )))))))
  ) (
  g_X11_addMark_11 Pw Px  S (C) (T)
  )
  )

set_option maxRecDepth 100000 in
set_option maxHeartbeats 4000000 in
theorem w_X11_addMark_0 {p : Program} {l : Launch} {e : Env} {s : State} {m : MethodId} {args : Array Value} {below : List Frame} {meth : Method} {c : Code} {Q : State → Prop} {D : va_G} {y : Nat → ClassId} {A0 : Nat → Prop} {kc kt : Nat} {Pw : Int32 → ZS → Prop} {Px : Nat → ZS → Prop} (X : CallFix p m c cX11_addMark 3 s args wsX11_addMark RX11) (hret : zQi p l e ({ frames := 6, cells := kc, slots := kt, locals := 90 } : Room) s m args below meth c Q cX11_addMark D y A0 .int Pw) (hthr : zQx p l e ({ frames := 6, cells := kc, slots := kt, locals := 90 } : Room) s m args below meth c Q cX11_addMark D y A0 Px RX11 wsX11_addMark) {x0 : Nat} {x1 : Int32} {S : ZS} {C T : Nat} {H : Heap} {locs : List Loc} {ls : Array Slot} (hf : g_X11_addMark_0 Pw Px x0 x1 S C T) (hCT : C ≤ kc ∧ T ≤ kt) (hM : zH D y A0 s H locs S) (hl : lv_has ls 3 [(0, .ref (zh y x0)), (1, .int x1)]) : W p l e ({ frames := 6, cells := kc, slots := kt, locals := 90 } : Room) s m args below meth c H locs (kc - C) (kt - T) Q (F0 m 0 ls []) := by
  obtain ⟨hx, hb, hml, hown, hts⟩ := id X
  unfold g_X11_addMark_0 at hf
  refine lv_iload_n hx hb dX11_addMark_0 rfl (lv_at hl 1 rfl) ?_
  refine lv_if_lt (tgt := 11) hx hb dX11_addMark_1 (by decide) (fun cc1 => ?_) (fun cc1 => ?_)
  · replace hf := m_ifPT hf cc1
    exact w_X11_addMark_11 X hret hthr hf hCT hM (lv_sub hl [] rfl)
  · replace hf := m_ifPF hf cc1
    refine lv_iload_n hx hb dX11_addMark_4 rfl (lv_at hl 1 rfl) ?_
    refine lv_sipush (v := (255 : Int32)) hx hb dX11_addMark_5 (by decide) ?_
    refine lv_icmp_le (tgt := 21) hx hb dX11_addMark_8 (by decide) (fun cc1 => ?_) (fun cc1 => ?_)
    · replace hf := m_ifPT hf cc1
      refine lv_aload_n hx hb dX11_addMark_21 rfl (lv_at hl 0 rfl) ?_
      obtain ⟨ca, hf⟩ := m_chkPE hf
      replace ca := z_in hM (by decide) ca
      refine z_get (k := 11) (j := 7) (C := RX11) (T := TX11) (N := 10) (fl := zf_11) (v := va_rf ((zP S 7 x0).map (zh y))) X hw_X11_addMark_11 hM rfl zc_11 ca (by decide) fl_X11_addMark_11_7 rfl dX11_addMark_22 ?_
      clear ca
      obtain ⟨b1, hb9, hf⟩ := m_calPE hf
      refine z_topr hb9 ?_
      clear hb9
      refine lv_aload_n hx hb dX11_addMark_25 rfl (lv_at hl 0 rfl) ?_
      obtain ⟨ca, hf⟩ := m_chkPE hf
      replace ca := z_in hM (by decide) ca
      refine z_get (k := 11) (j := 8) (C := RX11) (T := TX11) (N := 10) (fl := zf_11) (v := .int (zI S 8 x0)) X hw_X11_addMark_11 hM rfl zc_11 ca (by decide) fl_X11_addMark_11_8 rfl dX11_addMark_26 ?_
      clear ca
      obtain ⟨ca, hf⟩ := m_chkPE hf
      replace ca := z_in hM (by decide) ca
      obtain ⟨o2, ho, hf⟩ := m_calPE hf
      refine z_gcallVr (k := 1) (C := RX1) (T := TX1) (N := 8) (fl := zf_1) X hM rfl zc_1 ca (c_X1_at ho) gX11_addMark_X1_at rfl ⟨rfl, rfl⟩ hd_X1_at ⟨Nat.le_of_ble_eq_true rfl, Nat.le_of_ble_eq_true rfl⟩ rfl hl.1 rfl ⟨Nat.sub_le _ _, Nat.sub_le _ _⟩ (Nat.le_of_ble_eq_true rfl) dX11_addMark_29 (fun H locs hM => ?_)
      clear ho
      refine lv_astore_n (lv' := [(2, .ref (zh y o2.1)), (0, .ref (zh y x0)), (1, .int x1)]) hx hb dX11_addMark_32 rfl hl (by decide) rfl (fun ls hl => ?_)
      refine lv_aload_n hx hb dX11_addMark_33 rfl (lv_at hl 1 rfl) ?_
      obtain ⟨ca, hf⟩ := m_chkPE hf
      replace ca := z_in hM (by decide) ca
      refine z_get (k := 11) (j := 8) (C := RX11) (T := TX11) (N := 10) (fl := zf_11) (v := .int (zI o2.2 8 x0)) X hw_X11_addMark_11 hM rfl zc_11 ca (by decide) fl_X11_addMark_11_8 rfl dX11_addMark_34 ?_
      clear ca
      refine lv_if_eq (tgt := 48) hx hb dX11_addMark_37 (by decide) (fun cc1 => ?_) (fun cc1 => ?_)
      · replace hf := m_ifPT hf cc1
        exact w_X11_addMark_48 X hret hthr hf hCT hM (lv_sub hl [] rfl)
      · replace hf := m_ifPF hf cc1
        refine lv_aload_n hx hb dX11_addMark_40 rfl (lv_at hl 0 rfl) ?_
        obtain ⟨ca, hf⟩ := m_chkPE hf
        replace ca := z_in hM (by decide) ca
        refine z_get (k := 4) (j := 4) (C := RX4) (T := TX4) (N := 7) (fl := zf_4) (v := .int (zI o2.2 4 o2.1)) X hw_X11_addMark_4 hM rfl zc_4 ca (by decide) fl_X11_addMark_4_4 rfl dX11_addMark_41 ?_
        clear ca
        refine lv_iconst (v := (4 : Int32)) hx hb dX11_addMark_44 (by decide) ?_
        refine lv_icmp_lt (tgt := 58) hx hb dX11_addMark_45 (by decide) (fun cc1 => ?_) (fun cc1 => ?_)
        · replace hf := m_ifPT hf cc1
          refine lv_aload_n hx hb dX11_addMark_58 rfl (lv_at hl 0 rfl) ?_
          refine lv_iload_n hx hb dX11_addMark_59 rfl (lv_at hl 2 rfl) ?_
          obtain ⟨ca, hf⟩ := m_chkPE hf
          replace ca := z_in hM (by decide) ca
          obtain ⟨o3, ho, hf⟩ := m_calPE hf
          refine z_gcallVv (k := 4) (C := RX4) (T := TX4) (N := 7) (fl := zf_4) X hM rfl zc_4 ca (c_X4_putMark ho) gX11_addMark_X4_putMark rfl ⟨rfl, rfl⟩ hd_X4_putMark ⟨Nat.le_of_ble_eq_true rfl, Nat.le_of_ble_eq_true rfl⟩ rfl hl.1 rfl ⟨Nat.sub_le _ _, Nat.sub_le _ _⟩ (Nat.le_of_ble_eq_true rfl) dX11_addMark_60 (fun H locs hM => ?_)
          clear ho
          refine lv_aload_n hx hb dX11_addMark_63 rfl (lv_at hl 0 rfl) ?_
          obtain ⟨ca, hf⟩ := m_chkPE hf
          replace ca := z_in hM (by decide) ca
          refine z_get (k := 4) (j := 4) (C := RX4) (T := TX4) (N := 7) (fl := zf_4) (v := .int (zI o3.2 4 o2.1)) X hw_X11_addMark_4 hM rfl zc_4 ca (by decide) fl_X11_addMark_4_4 rfl dX11_addMark_64 ?_
          clear ca
          exact hret _ _ _ _ H locs _ ls hf hM rfl dX11_addMark_67
        · replace hf := m_ifPF hf cc1
          exact w_X11_addMark_48 X hret hthr hf hCT hM (lv_sub hl [] rfl)
    · replace hf := m_ifPF hf cc1
      exact w_X11_addMark_11 X hret hthr hf hCT hM (lv_sub hl [] rfl)
def g_X11_addMark (x0 : Nat) (x1 : Int32) (S : ZS) (mc ms : Nat) (Pw : Int32 → ZS → Prop) (Px : Nat → ZS → Prop) : Prop := g_X11_addMark_0 Pw Px x0 x1 S mc ms
theorem c_X11_addMark {l : Launch} {D : va_G} {y : Nat → ClassId} {x0 : Nat} {x1 : Int32} {S : ZS} {kc kt : Nat} {Pw : Int32 → ZS → Prop} {Px : Nat → ZS → Prop} (hlt : l.stackTraces = false) (hf : g_X11_addMark x0 x1 S kc kt Pw Px) : zXi l yX11_addMark wsX11_addMark ({ frames := 6, cells := kc, slots := kt, locals := 90 } : Room) [.ref (zh y x0), .int x1] D y S kc kt Pw Px :=
  z_xentI hlt ⟨Nat.le_of_ble_eq_true rfl, Nat.le_of_ble_eq_true rfl⟩ (own := RX11) (cc := cX11_addMark) (maxL := 3) (by decide) rfl rfl (Nat.le_of_ble_eq_true rfl) ⟨rfl, rfl⟩ (fun p e s m args below meth c A0 Q H locs ls X hret hthr hM hl => w_X11_addMark_0 X hret hthr hf ⟨Nat.le_refl _, Nat.le_refl _⟩ hM (lv_sub hl [0, 1] rfl))
theorem hd_X11_say : yX11_say.cls = RX11 ∧ yX11_say.cls ≠ "java/lang/invoke/MethodHandle" ∧ yX11_say.cls ≠ "java/lang/invoke/VarHandle" ∧ (parseMethodDescriptor yX11_say.desc).map (fun d => d.parameters.length) = some 0 := by decide +kernel
theorem fl_X11_say_11_0 : Cond.fieldLink RX11 10 "MoveTexts" "text" "LMoveTexts$Row;" ∈ wsX11_say := by decide +kernel
theorem fl_X11_say_11_7 : Cond.fieldLink RX11 57 "MoveTexts" "game" "LMoveTexts$Game;" ∈ wsX11_say := by decide +kernel
theorem fl_X11_say_11_8 : Cond.fieldLink RX11 61 "MoveTexts" "here" "I" ∈ wsX11_say := by decide +kernel
theorem fl_X11_say_4_6 : Cond.fieldLink RX11 182 "MoveTexts$Node" "remark" "LMoveTexts$Row;" ∈ wsX11_say := by decide +kernel
theorem hw_X11_say_11 : ∀ w ∈ wsX110, w ∈ wsX11_say := by decide +kernel
theorem hw_X11_say_4 : ∀ w ∈ wsX40, w ∈ wsX11_say := by decide +kernel
theorem sr_X11_say_237 : (RX11, 237, "not a remark", 24) ∈ zSR := by decide +kernel
theorem xt_X11_say_1 : zTx RX11 wsX11_say 1 144 148 := ⟨by decide +kernel, fun w hw => List.mem_cons_of_mem _ (List.mem_append_right _ hw), xh_1, xg_1⟩
def g_X11_say_43 (Pw : Int32 → ZS → Prop) (Px : Nat → ZS → Prop) (S : ZS) (C T : Nat) : Prop :=
  m_thrP (C) (T) 1 S Px

set_option maxRecDepth 100000 in
set_option maxHeartbeats 4000000 in
theorem w_X11_say_43 {p : Program} {l : Launch} {e : Env} {s : State} {m : MethodId} {args : Array Value} {below : List Frame} {meth : Method} {c : Code} {Q : State → Prop} {D : va_G} {y : Nat → ClassId} {A0 : Nat → Prop} {kc kt : Nat} {Pw : Int32 → ZS → Prop} {Px : Nat → ZS → Prop} (X : CallFix p m c cX11_say 2 s args wsX11_say RX11) (hret : zQi p l e ({ frames := 6, cells := kc, slots := kt, locals := 125 } : Room) s m args below meth c Q cX11_say D y A0 .int Pw) (hthr : zQx p l e ({ frames := 6, cells := kc, slots := kt, locals := 125 } : Room) s m args below meth c Q cX11_say D y A0 Px RX11 wsX11_say) {S : ZS} {C T : Nat} {H : Heap} {locs : List Loc} {ls : Array Slot} (hf : g_X11_say_43 Pw Px  S C T) (hCT : C ≤ kc ∧ T ≤ kt) (hM : zH D y A0 s H locs S) (hl : lv_has ls 2 []) : W p l e ({ frames := 6, cells := kc, slots := kt, locals := 125 } : Room) s m args below meth c H locs (kc - C) (kt - T) Q (F0 m 43 ls []) := by
  obtain ⟨hx, hb, hml, hown, hts⟩ := id X
  unfold g_X11_say_43 at hf
  exact hthr 1 _ _ _ H locs _ _ _ _ ls _ _ hf hCT hM (by rw [hml]; exact hl.1) xt_X11_say_1 sr_X11_say_237 ⟨dX11_say_43, dX11_say_46, Or.inl ⟨dX11_say_47, dX11_say_49, dX11_say_52⟩⟩
def g_X11_say_0 (Pw : Int32 → ZS → Prop) (Px : Nat → ZS → Prop) (x0 : Nat) (S : ZS) (C T : Nat) : Prop :=
  m_chkQ (zK S x0 = 11) (
  m_calP (zP S 0 x0) (fun b1 =>
  m_chkQ (zK S b1 = 6) (
  m_calP (f_X6_size b1 S) (fun o2 =>
  m_ifQ ((200 : Int32) < o2.1) (
  g_X11_say_43 Pw Px  o2.2 (C) (T)
  ) (
  m_chkQ (zK o2.2 x0 = 11) (
  m_calP (zP o2.2 0 x0) (fun b3 =>
  m_chkQ (zK o2.2 b3 = 6) (
  m_calP (f_X6_indexOf b3 (125 : Int32) (0 : Int32) o2.2) (fun o4 =>
  m_ifQ (o4.1 < o2.1) (
  g_X11_say_43 Pw Px  o4.2 (C) (T)
  ) (
  m_chkQ (zK o4.2 x0 = 11) (
  m_calP (zP o4.2 0 x0) (fun b5 =>
  m_chkQ (zK o4.2 b5 = 6) (
  m_calP (f_X6_indexOf b5 (10 : Int32) (0 : Int32) o4.2) (fun o6 =>
  m_ifQ (o2.1 ≤ o6.1) (
  m_chkQ (zK o6.2 x0 = 11) (
  m_calP (zP o6.2 7 x0) (fun b7 =>
  m_chkQ (zK o6.2 x0 = 11) (
  m_chkQ (zK o6.2 b7 = 1) (
  m_calP (f_X1_at b7 (zI o6.2 8 x0) o6.2) (fun o8 =>
  m_chkQ (zK o8.2 o8.1 = 4) (
  m_calP (zP o8.2 6 o8.1) (fun b9 =>
  m_chkQ (zK o8.2 x0 = 11) (
  m_calP (zP o8.2 0 x0) (fun b10 =>
  m_chkQ (zK o8.2 b9 = 6) (
  m_gal (C) (T) (fun mc ms Pw => g_X6_copyFrom b9 b10 o8.2 mc ms Pw) (fun r12 S13 C14 T15 =>
  m_chkQ (zK S13 x0 = 11) (
  m_calP (zP S13 0 x0) (fun b16 =>
  m_chkQ (zK S13 b16 = 6) (
  m_calP (f_X6_keep b16 (0 : Int32) S13) (fun o17 =>
  Pw o2.1 o17.2)))))))))))))))
  ) (
  g_X11_say_43 Pw Px  o6.2 (C) (T)
  )))))
  )))))
  )))))

set_option maxRecDepth 100000 in
set_option maxHeartbeats 4000000 in
theorem w_X11_say_0 {p : Program} {l : Launch} {e : Env} {s : State} {m : MethodId} {args : Array Value} {below : List Frame} {meth : Method} {c : Code} {Q : State → Prop} {D : va_G} {y : Nat → ClassId} {A0 : Nat → Prop} {kc kt : Nat} {Pw : Int32 → ZS → Prop} {Px : Nat → ZS → Prop} (X : CallFix p m c cX11_say 2 s args wsX11_say RX11) (hret : zQi p l e ({ frames := 6, cells := kc, slots := kt, locals := 125 } : Room) s m args below meth c Q cX11_say D y A0 .int Pw) (hthr : zQx p l e ({ frames := 6, cells := kc, slots := kt, locals := 125 } : Room) s m args below meth c Q cX11_say D y A0 Px RX11 wsX11_say) {x0 : Nat} {S : ZS} {C T : Nat} {H : Heap} {locs : List Loc} {ls : Array Slot} (hf : g_X11_say_0 Pw Px x0 S C T) (hCT : C ≤ kc ∧ T ≤ kt) (hM : zH D y A0 s H locs S) (hl : lv_has ls 2 [(0, .ref (zh y x0))]) : W p l e ({ frames := 6, cells := kc, slots := kt, locals := 125 } : Room) s m args below meth c H locs (kc - C) (kt - T) Q (F0 m 0 ls []) := by
  obtain ⟨hx, hb, hml, hown, hts⟩ := id X
  unfold g_X11_say_0 at hf
  refine lv_aload_n hx hb dX11_say_0 rfl (lv_at hl 0 rfl) ?_
  obtain ⟨ca, hf⟩ := m_chkPE hf
  replace ca := z_in hM (by decide) ca
  refine z_get (k := 11) (j := 0) (C := RX11) (T := TX11) (N := 10) (fl := zf_11) (v := va_rf ((zP S 0 x0).map (zh y))) X hw_X11_say_11 hM rfl zc_11 ca (by decide) fl_X11_say_11_0 rfl dX11_say_1 ?_
  clear ca
  obtain ⟨b1, hb9, hf⟩ := m_calPE hf
  refine z_topr hb9 ?_
  clear hb9
  obtain ⟨ca, hf⟩ := m_chkPE hf
  replace ca := z_in hM (by decide) ca
  obtain ⟨o2, ho, hf⟩ := m_calPE hf
  refine z_gcallVi (k := 6) (C := RX6) (T := TX6) (N := 2) (fl := zf_6) X hM rfl zc_6 ca (c_X6_size ho) gX11_say_X6_size rfl ⟨rfl, rfl⟩ hd_X6_size ⟨Nat.le_of_ble_eq_true rfl, Nat.le_of_ble_eq_true rfl⟩ rfl hl.1 rfl ⟨Nat.sub_le _ _, Nat.sub_le _ _⟩ (Nat.le_of_ble_eq_true rfl) dX11_say_4 (fun H locs hM => ?_)
  clear ho
  refine lv_istore_n (lv' := [(1, .int o2.1), (0, .ref (zh y x0))]) hx hb dX11_say_7 rfl hl (by decide) rfl (fun ls hl => ?_)
  refine lv_iload_n hx hb dX11_say_8 rfl (lv_at hl 0 rfl) ?_
  refine lv_sipush (v := (200 : Int32)) hx hb dX11_say_9 (by decide) ?_
  refine lv_icmp_gt (tgt := 43) hx hb dX11_say_12 (by decide) (fun cc1 => ?_) (fun cc1 => ?_)
  · replace hf := m_ifPT hf cc1
    exact w_X11_say_43 X hret hthr hf hCT hM (lv_sub hl [] rfl)
  · replace hf := m_ifPF hf cc1
    refine lv_aload_n hx hb dX11_say_15 rfl (lv_at hl 1 rfl) ?_
    obtain ⟨ca, hf⟩ := m_chkPE hf
    replace ca := z_in hM (by decide) ca
    refine z_get (k := 11) (j := 0) (C := RX11) (T := TX11) (N := 10) (fl := zf_11) (v := va_rf ((zP o2.2 0 x0).map (zh y))) X hw_X11_say_11 hM rfl zc_11 ca (by decide) fl_X11_say_11_0 rfl dX11_say_16 ?_
    clear ca
    obtain ⟨b3, hb9, hf⟩ := m_calPE hf
    refine z_topr hb9 ?_
    clear hb9
    refine lv_bipush (v := (125 : Int32)) hx hb dX11_say_19 (by decide) ?_
    refine lv_iconst (v := (0 : Int32)) hx hb dX11_say_21 (by decide) ?_
    obtain ⟨ca, hf⟩ := m_chkPE hf
    replace ca := z_in hM (by decide) ca
    obtain ⟨o4, ho, hf⟩ := m_calPE hf
    refine z_gcallVi (k := 6) (C := RX6) (T := TX6) (N := 2) (fl := zf_6) X hM rfl zc_6 ca (c_X6_indexOf ho) gX11_say_X6_indexOf rfl ⟨rfl, rfl⟩ hd_X6_indexOf ⟨Nat.le_of_ble_eq_true rfl, Nat.le_of_ble_eq_true rfl⟩ rfl hl.1 rfl ⟨Nat.sub_le _ _, Nat.sub_le _ _⟩ (Nat.le_of_ble_eq_true rfl) dX11_say_22 (fun H locs hM => ?_)
    clear ho
    refine lv_iload_n hx hb dX11_say_25 rfl (lv_at hl 0 rfl) ?_
    refine lv_icmp_lt (tgt := 43) hx hb dX11_say_26 (by decide) (fun cc1 => ?_) (fun cc1 => ?_)
    · replace hf := m_ifPT hf cc1
      exact w_X11_say_43 X hret hthr hf hCT hM (lv_sub hl [] rfl)
    · replace hf := m_ifPF hf cc1
      refine lv_aload_n hx hb dX11_say_29 rfl (lv_at hl 1 rfl) ?_
      obtain ⟨ca, hf⟩ := m_chkPE hf
      replace ca := z_in hM (by decide) ca
      refine z_get (k := 11) (j := 0) (C := RX11) (T := TX11) (N := 10) (fl := zf_11) (v := va_rf ((zP o4.2 0 x0).map (zh y))) X hw_X11_say_11 hM rfl zc_11 ca (by decide) fl_X11_say_11_0 rfl dX11_say_30 ?_
      clear ca
      obtain ⟨b5, hb9, hf⟩ := m_calPE hf
      refine z_topr hb9 ?_
      clear hb9
      refine lv_bipush (v := (10 : Int32)) hx hb dX11_say_33 (by decide) ?_
      refine lv_iconst (v := (0 : Int32)) hx hb dX11_say_35 (by decide) ?_
      obtain ⟨ca, hf⟩ := m_chkPE hf
      replace ca := z_in hM (by decide) ca
      obtain ⟨o6, ho, hf⟩ := m_calPE hf
      refine z_gcallVi (k := 6) (C := RX6) (T := TX6) (N := 2) (fl := zf_6) X hM rfl zc_6 ca (c_X6_indexOf ho) gX11_say_X6_indexOf rfl ⟨rfl, rfl⟩ hd_X6_indexOf ⟨Nat.le_of_ble_eq_true rfl, Nat.le_of_ble_eq_true rfl⟩ rfl hl.1 rfl ⟨Nat.sub_le _ _, Nat.sub_le _ _⟩ (Nat.le_of_ble_eq_true rfl) dX11_say_36 (fun H locs hM => ?_)
      clear ho
      refine lv_iload_n hx hb dX11_say_39 rfl (lv_at hl 0 rfl) ?_
      refine lv_icmp_ge (tgt := 53) hx hb dX11_say_40 (by decide) (fun cc1 => ?_) (fun cc1 => ?_)
      · replace hf := m_ifPT hf cc1
        refine lv_aload_n hx hb dX11_say_53 rfl (lv_at hl 1 rfl) ?_
        obtain ⟨ca, hf⟩ := m_chkPE hf
        replace ca := z_in hM (by decide) ca
        refine z_get (k := 11) (j := 7) (C := RX11) (T := TX11) (N := 10) (fl := zf_11) (v := va_rf ((zP o6.2 7 x0).map (zh y))) X hw_X11_say_11 hM rfl zc_11 ca (by decide) fl_X11_say_11_7 rfl dX11_say_54 ?_
        clear ca
        obtain ⟨b7, hb9, hf⟩ := m_calPE hf
        refine z_topr hb9 ?_
        clear hb9
        refine lv_aload_n hx hb dX11_say_57 rfl (lv_at hl 1 rfl) ?_
        obtain ⟨ca, hf⟩ := m_chkPE hf
        replace ca := z_in hM (by decide) ca
        refine z_get (k := 11) (j := 8) (C := RX11) (T := TX11) (N := 10) (fl := zf_11) (v := .int (zI o6.2 8 x0)) X hw_X11_say_11 hM rfl zc_11 ca (by decide) fl_X11_say_11_8 rfl dX11_say_58 ?_
        clear ca
        obtain ⟨ca, hf⟩ := m_chkPE hf
        replace ca := z_in hM (by decide) ca
        obtain ⟨o8, ho, hf⟩ := m_calPE hf
        refine z_gcallVr (k := 1) (C := RX1) (T := TX1) (N := 8) (fl := zf_1) X hM rfl zc_1 ca (c_X1_at ho) gX11_say_X1_at rfl ⟨rfl, rfl⟩ hd_X1_at ⟨Nat.le_of_ble_eq_true rfl, Nat.le_of_ble_eq_true rfl⟩ rfl hl.1 rfl ⟨Nat.sub_le _ _, Nat.sub_le _ _⟩ (Nat.le_of_ble_eq_true rfl) dX11_say_61 (fun H locs hM => ?_)
        clear ho
        obtain ⟨ca, hf⟩ := m_chkPE hf
        replace ca := z_in hM (by decide) ca
        refine z_get (k := 4) (j := 6) (C := RX4) (T := TX4) (N := 7) (fl := zf_4) (v := va_rf ((zP o8.2 6 o8.1).map (zh y))) X hw_X11_say_4 hM rfl zc_4 ca (by decide) fl_X11_say_4_6 rfl dX11_say_64 ?_
        clear ca
        obtain ⟨b9, hb9, hf⟩ := m_calPE hf
        refine z_topr hb9 ?_
        clear hb9
        refine lv_aload_n hx hb dX11_say_67 rfl (lv_at hl 1 rfl) ?_
        obtain ⟨ca, hf⟩ := m_chkPE hf
        replace ca := z_in hM (by decide) ca
        refine z_get (k := 11) (j := 0) (C := RX11) (T := TX11) (N := 10) (fl := zf_11) (v := va_rf ((zP o8.2 0 x0).map (zh y))) X hw_X11_say_11 hM rfl zc_11 ca (by decide) fl_X11_say_11_0 rfl dX11_say_68 ?_
        clear ca
        obtain ⟨b10, hb9, hf⟩ := m_calPE hf
        refine z_topr hb9 ?_
        clear hb9
        obtain ⟨ca, hf⟩ := m_chkPE hf
        replace ca := z_in hM (by decide) ca
        obtain ⟨mc, ms, hcm, ho⟩ := m_galE hf
        refine z_wcallVv (k := 6) (C := RX6) (T := TX6) (N := 2) (fl := zf_6) X hM rfl zc_6 ca (c_X6_copyFrom ho) gX11_say_X6_copyFrom rfl ⟨rfl, rfl⟩ ⟨by show kc - (C) + mc ≤ kc; omega, by show kt - (T) + ms ≤ kt; omega⟩ hd_X6_copyFrom ⟨Nat.le_of_ble_eq_true rfl, Nat.le_of_ble_eq_true rfl⟩ rfl hl.1 rfl (Nat.le_of_ble_eq_true rfl) dX11_say_71 (fun S13 H locs hf hM => ?_)
        refine z_eqCS (c2 := kc - (C - mc)) (t2 := kt - (T - ms)) (by omega) (by omega) ?_
        replace hCT : C - mc ≤ kc ∧ T - ms ≤ kt := by omega
        generalize C - mc = C14 at hf hCT ⊢
        generalize T - ms = T15 at hf hCT ⊢
        clear ho hcm
        refine lv_aload_n hx hb dX11_say_74 rfl (lv_at hl 1 rfl) ?_
        obtain ⟨ca, hf⟩ := m_chkPE hf
        replace ca := z_in hM (by decide) ca
        refine z_get (k := 11) (j := 0) (C := RX11) (T := TX11) (N := 10) (fl := zf_11) (v := va_rf ((zP S13 0 x0).map (zh y))) X hw_X11_say_11 hM rfl zc_11 ca (by decide) fl_X11_say_11_0 rfl dX11_say_75 ?_
        clear ca
        obtain ⟨b16, hb9, hf⟩ := m_calPE hf
        refine z_topr hb9 ?_
        clear hb9
        refine lv_iconst (v := (0 : Int32)) hx hb dX11_say_78 (by decide) ?_
        obtain ⟨ca, hf⟩ := m_chkPE hf
        replace ca := z_in hM (by decide) ca
        obtain ⟨o17, ho, hf⟩ := m_calPE hf
        refine z_gcallVv (k := 6) (C := RX6) (T := TX6) (N := 2) (fl := zf_6) X hM rfl zc_6 ca (c_X6_keep ho) gX11_say_X6_keep rfl ⟨rfl, rfl⟩ hd_X6_keep ⟨Nat.le_of_ble_eq_true rfl, Nat.le_of_ble_eq_true rfl⟩ rfl hl.1 rfl ⟨Nat.sub_le _ _, Nat.sub_le _ _⟩ (Nat.le_of_ble_eq_true rfl) dX11_say_79 (fun H locs hM => ?_)
        clear ho
        refine lv_iload_n hx hb dX11_say_82 rfl (lv_at hl 0 rfl) ?_
        exact hret _ _ _ _ H locs _ ls hf hM rfl dX11_say_83
      · replace hf := m_ifPF hf cc1
        exact w_X11_say_43 X hret hthr hf hCT hM (lv_sub hl [] rfl)
def g_X11_say (x0 : Nat) (S : ZS) (mc ms : Nat) (Pw : Int32 → ZS → Prop) (Px : Nat → ZS → Prop) : Prop := g_X11_say_0 Pw Px x0 S mc ms
theorem c_X11_say {l : Launch} {D : va_G} {y : Nat → ClassId} {x0 : Nat} {S : ZS} {kc kt : Nat} {Pw : Int32 → ZS → Prop} {Px : Nat → ZS → Prop} (hlt : l.stackTraces = false) (hf : g_X11_say x0 S kc kt Pw Px) : zXi l yX11_say wsX11_say ({ frames := 6, cells := kc, slots := kt, locals := 125 } : Room) [.ref (zh y x0)] D y S kc kt Pw Px :=
  z_xentI hlt ⟨Nat.le_of_ble_eq_true rfl, Nat.le_of_ble_eq_true rfl⟩ (own := RX11) (cc := cX11_say) (maxL := 2) (by decide) rfl rfl (Nat.le_of_ble_eq_true rfl) ⟨rfl, rfl⟩ (fun p e s m args below meth c A0 Q H locs ls X hret hthr hM hl => w_X11_say_0 X hret hthr hf ⟨Nat.le_refl _, Nat.le_refl _⟩ hM (lv_sub hl [0] rfl))
theorem hd_X11_lead : yX11_lead.cls = RX11 ∧ yX11_lead.cls ≠ "java/lang/invoke/MethodHandle" ∧ yX11_lead.cls ≠ "java/lang/invoke/VarHandle" ∧ (parseMethodDescriptor yX11_lead.desc).map (fun d => d.parameters.length) = some 0 := by decide +kernel
theorem fl_X11_lead_11_7 : Cond.fieldLink RX11 57 "MoveTexts" "game" "LMoveTexts$Game;" ∈ wsX11_lead := by decide +kernel
theorem fl_X11_lead_11_8 : Cond.fieldLink RX11 61 "MoveTexts" "here" "I" ∈ wsX11_lead := by decide +kernel
theorem hw_X11_lead_11 : ∀ w ∈ wsX110, w ∈ wsX11_lead := by decide +kernel
theorem sr_X11_lead_242 : (RX11, 242, "node 0 has no others beside it", 25) ∈ zSR := by decide +kernel
theorem sr_X11_lead_250 : (RX11, 250, "a node would be too deep", 26) ∈ zSR := by decide +kernel
theorem xt_X11_lead_4 : zTx RX11 wsX11_lead 4 225 229 := ⟨by decide +kernel, fun w hw => List.mem_cons_of_mem _ (List.mem_append_right _ hw), xh_4, xg_4⟩
def g_X11_lead_0 (Pw : Int32 → ZS → Prop) (Px : Nat → ZS → Prop) (x0 : Nat) (S : ZS) (C T : Nat) : Prop :=
  m_chkQ (zK S x0 = 11) (
  m_ifQ ((zI S 8 x0) = 0) (
  m_thrP (C) (T) 4 S Px
  ) (
  m_chkQ (zK S x0 = 11) (
  m_calP (zP S 7 x0) (fun b1 =>
  m_chkQ (zK S x0 = 11) (
  m_chkQ (zK S b1 = 1) (
  m_calP (f_X1_goesOn b1 (zI S 8 x0) S) (fun o2 =>
  m_ifQ (o2.1 = 0) (
  m_chkQ (zK o2.2 x0 = 11) (
  m_calP (zP o2.2 7 x0) (fun b3 =>
  m_chkQ (zK o2.2 x0 = 11) (
  m_chkQ (zK o2.2 b3 = 1) (
  m_calP (f_X1_mayLead b3 (zI o2.2 8 x0) o2.2) (fun o4 =>
  m_ifQ (o4.1 = 0) (
  m_thrP (C) (T) 4 o4.2 Px
  ) (
  m_chkQ (zK o4.2 x0 = 11) (
  m_calP (zP o4.2 7 x0) (fun b5 =>
  m_chkQ (zK o4.2 x0 = 11) (
  m_chkQ (zK o4.2 b5 = 1) (
  m_calP (f_X1_putFirst b5 (zI o4.2 8 x0) o4.2) (fun o6 =>
  m_chkQ (vp_nar .boolean (1 : Int32) = (1 : Int32)) (Pw (1 : Int32) o6.2))))))
  ))))))
  ) (
  m_chkQ (vp_nar .boolean (0 : Int32) = (0 : Int32)) (Pw (0 : Int32) o2.2)
  ))))))
  ))

set_option maxRecDepth 100000 in
set_option maxHeartbeats 4000000 in
theorem w_X11_lead_0 {p : Program} {l : Launch} {e : Env} {s : State} {m : MethodId} {args : Array Value} {below : List Frame} {meth : Method} {c : Code} {Q : State → Prop} {D : va_G} {y : Nat → ClassId} {A0 : Nat → Prop} {kc kt : Nat} {Pw : Int32 → ZS → Prop} {Px : Nat → ZS → Prop} (X : CallFix p m c cX11_lead 1 s args wsX11_lead RX11) (hret : zQi p l e ({ frames := 6, cells := kc, slots := kt, locals := 90 } : Room) s m args below meth c Q cX11_lead D y A0 .boolean Pw) (hthr : zQx p l e ({ frames := 6, cells := kc, slots := kt, locals := 90 } : Room) s m args below meth c Q cX11_lead D y A0 Px RX11 wsX11_lead) {x0 : Nat} {S : ZS} {C T : Nat} {H : Heap} {locs : List Loc} {ls : Array Slot} (hf : g_X11_lead_0 Pw Px x0 S C T) (hCT : C ≤ kc ∧ T ≤ kt) (hM : zH D y A0 s H locs S) (hl : lv_has ls 1 [(0, .ref (zh y x0))]) : W p l e ({ frames := 6, cells := kc, slots := kt, locals := 90 } : Room) s m args below meth c H locs (kc - C) (kt - T) Q (F0 m 0 ls []) := by
  obtain ⟨hx, hb, hml, hown, hts⟩ := id X
  unfold g_X11_lead_0 at hf
  refine lv_aload_n hx hb dX11_lead_0 rfl (lv_at hl 0 rfl) ?_
  obtain ⟨ca, hf⟩ := m_chkPE hf
  replace ca := z_in hM (by decide) ca
  refine z_get (k := 11) (j := 8) (C := RX11) (T := TX11) (N := 10) (fl := zf_11) (v := .int (zI S 8 x0)) X hw_X11_lead_11 hM rfl zc_11 ca (by decide) fl_X11_lead_11_8 rfl dX11_lead_1 ?_
  clear ca
  refine lv_if_ne (tgt := 17) hx hb dX11_lead_4 (by decide) (fun cc1 => ?_) (fun cc1 => ?_)
  · replace hf := m_ifPF hf cc1
    refine lv_aload_n hx hb dX11_lead_17 rfl (lv_at hl 0 rfl) ?_
    obtain ⟨ca, hf⟩ := m_chkPE hf
    replace ca := z_in hM (by decide) ca
    refine z_get (k := 11) (j := 7) (C := RX11) (T := TX11) (N := 10) (fl := zf_11) (v := va_rf ((zP S 7 x0).map (zh y))) X hw_X11_lead_11 hM rfl zc_11 ca (by decide) fl_X11_lead_11_7 rfl dX11_lead_18 ?_
    clear ca
    obtain ⟨b1, hb9, hf⟩ := m_calPE hf
    refine z_topr hb9 ?_
    clear hb9
    refine lv_aload_n hx hb dX11_lead_21 rfl (lv_at hl 0 rfl) ?_
    obtain ⟨ca, hf⟩ := m_chkPE hf
    replace ca := z_in hM (by decide) ca
    refine z_get (k := 11) (j := 8) (C := RX11) (T := TX11) (N := 10) (fl := zf_11) (v := .int (zI S 8 x0)) X hw_X11_lead_11 hM rfl zc_11 ca (by decide) fl_X11_lead_11_8 rfl dX11_lead_22 ?_
    clear ca
    obtain ⟨ca, hf⟩ := m_chkPE hf
    replace ca := z_in hM (by decide) ca
    obtain ⟨o2, ho, hf⟩ := m_calPE hf
    refine z_gcallVi (k := 1) (C := RX1) (T := TX1) (N := 8) (fl := zf_1) X hM rfl zc_1 ca (c_X1_goesOn ho) gX11_lead_X1_goesOn rfl ⟨rfl, rfl⟩ hd_X1_goesOn ⟨Nat.le_of_ble_eq_true rfl, Nat.le_of_ble_eq_true rfl⟩ rfl hl.1 rfl ⟨Nat.sub_le _ _, Nat.sub_le _ _⟩ (Nat.le_of_ble_eq_true rfl) dX11_lead_25 (fun H locs hM => ?_)
    clear ho
    refine lv_if_eq (tgt := 33) hx hb dX11_lead_28 (by decide) (fun cc1 => ?_) (fun cc1 => ?_)
    · replace hf := m_ifPT hf cc1
      refine lv_aload_n hx hb dX11_lead_33 rfl (lv_at hl 0 rfl) ?_
      obtain ⟨ca, hf⟩ := m_chkPE hf
      replace ca := z_in hM (by decide) ca
      refine z_get (k := 11) (j := 7) (C := RX11) (T := TX11) (N := 10) (fl := zf_11) (v := va_rf ((zP o2.2 7 x0).map (zh y))) X hw_X11_lead_11 hM rfl zc_11 ca (by decide) fl_X11_lead_11_7 rfl dX11_lead_34 ?_
      clear ca
      obtain ⟨b3, hb9, hf⟩ := m_calPE hf
      refine z_topr hb9 ?_
      clear hb9
      refine lv_aload_n hx hb dX11_lead_37 rfl (lv_at hl 0 rfl) ?_
      obtain ⟨ca, hf⟩ := m_chkPE hf
      replace ca := z_in hM (by decide) ca
      refine z_get (k := 11) (j := 8) (C := RX11) (T := TX11) (N := 10) (fl := zf_11) (v := .int (zI o2.2 8 x0)) X hw_X11_lead_11 hM rfl zc_11 ca (by decide) fl_X11_lead_11_8 rfl dX11_lead_38 ?_
      clear ca
      obtain ⟨ca, hf⟩ := m_chkPE hf
      replace ca := z_in hM (by decide) ca
      obtain ⟨o4, ho, hf⟩ := m_calPE hf
      refine z_gcallVi (k := 1) (C := RX1) (T := TX1) (N := 8) (fl := zf_1) X hM rfl zc_1 ca (c_X1_mayLead ho) gX11_lead_X1_mayLead rfl ⟨rfl, rfl⟩ hd_X1_mayLead ⟨Nat.le_of_ble_eq_true rfl, Nat.le_of_ble_eq_true rfl⟩ rfl hl.1 rfl ⟨Nat.sub_le _ _, Nat.sub_le _ _⟩ (Nat.le_of_ble_eq_true rfl) dX11_lead_41 (fun H locs hM => ?_)
      clear ho
      refine lv_if_ne (tgt := 57) hx hb dX11_lead_44 (by decide) (fun cc1 => ?_) (fun cc1 => ?_)
      · replace hf := m_ifPF hf cc1
        refine lv_aload_n hx hb dX11_lead_57 rfl (lv_at hl 0 rfl) ?_
        obtain ⟨ca, hf⟩ := m_chkPE hf
        replace ca := z_in hM (by decide) ca
        refine z_get (k := 11) (j := 7) (C := RX11) (T := TX11) (N := 10) (fl := zf_11) (v := va_rf ((zP o4.2 7 x0).map (zh y))) X hw_X11_lead_11 hM rfl zc_11 ca (by decide) fl_X11_lead_11_7 rfl dX11_lead_58 ?_
        clear ca
        obtain ⟨b5, hb9, hf⟩ := m_calPE hf
        refine z_topr hb9 ?_
        clear hb9
        refine lv_aload_n hx hb dX11_lead_61 rfl (lv_at hl 0 rfl) ?_
        obtain ⟨ca, hf⟩ := m_chkPE hf
        replace ca := z_in hM (by decide) ca
        refine z_get (k := 11) (j := 8) (C := RX11) (T := TX11) (N := 10) (fl := zf_11) (v := .int (zI o4.2 8 x0)) X hw_X11_lead_11 hM rfl zc_11 ca (by decide) fl_X11_lead_11_8 rfl dX11_lead_62 ?_
        clear ca
        obtain ⟨ca, hf⟩ := m_chkPE hf
        replace ca := z_in hM (by decide) ca
        obtain ⟨o6, ho, hf⟩ := m_calPE hf
        refine z_gcallVv (k := 1) (C := RX1) (T := TX1) (N := 8) (fl := zf_1) X hM rfl zc_1 ca (c_X1_putFirst ho) gX11_lead_X1_putFirst rfl ⟨rfl, rfl⟩ hd_X1_putFirst ⟨Nat.le_of_ble_eq_true rfl, Nat.le_of_ble_eq_true rfl⟩ rfl hl.1 rfl ⟨Nat.sub_le _ _, Nat.sub_le _ _⟩ (Nat.le_of_ble_eq_true rfl) dX11_lead_65 (fun H locs hM => ?_)
        clear ho
        refine lv_iconst (v := (1 : Int32)) hx hb dX11_lead_68 (by decide) ?_
        obtain ⟨cd, hf⟩ := m_chkPE hf
        exact hret _ _ _ _ H locs _ ls hf hM (m_nb cd) dX11_lead_69
      · replace hf := m_ifPT hf cc1
        exact hthr 4 _ _ _ H locs _ _ _ _ ls _ _ hf hCT hM (by rw [hml]; exact hl.1) xt_X11_lead_4 sr_X11_lead_250 ⟨dX11_lead_47, dX11_lead_50, Or.inl ⟨dX11_lead_51, dX11_lead_53, dX11_lead_56⟩⟩
    · replace hf := m_ifPF hf cc1
      refine lv_iconst (v := (0 : Int32)) hx hb dX11_lead_31 (by decide) ?_
      obtain ⟨cd, hf⟩ := m_chkPE hf
      exact hret _ _ _ _ H locs _ ls hf hM (m_nb cd) dX11_lead_32
  · replace hf := m_ifPT hf cc1
    exact hthr 4 _ _ _ H locs _ _ _ _ ls _ _ hf hCT hM (by rw [hml]; exact hl.1) xt_X11_lead_4 sr_X11_lead_242 ⟨dX11_lead_7, dX11_lead_10, Or.inl ⟨dX11_lead_11, dX11_lead_13, dX11_lead_16⟩⟩
def g_X11_lead (x0 : Nat) (S : ZS) (mc ms : Nat) (Pw : Int32 → ZS → Prop) (Px : Nat → ZS → Prop) : Prop := g_X11_lead_0 Pw Px x0 S mc ms
theorem c_X11_lead {l : Launch} {D : va_G} {y : Nat → ClassId} {x0 : Nat} {S : ZS} {kc kt : Nat} {Pw : Int32 → ZS → Prop} {Px : Nat → ZS → Prop} (hlt : l.stackTraces = false) (hf : g_X11_lead x0 S kc kt Pw Px) : zXi l yX11_lead wsX11_lead ({ frames := 6, cells := kc, slots := kt, locals := 90 } : Room) [.ref (zh y x0)] D y S kc kt Pw Px :=
  z_xentI hlt ⟨Nat.le_of_ble_eq_true rfl, Nat.le_of_ble_eq_true rfl⟩ (own := RX11) (cc := cX11_lead) (maxL := 1) (by decide) rfl rfl (Nat.le_of_ble_eq_true rfl) ⟨rfl, rfl⟩ (fun p e s m args below meth c A0 Q H locs ls X hret hthr hM hl => w_X11_lead_0 X hret hthr hf ⟨Nat.le_refl _, Nat.le_refl _⟩ hM (lv_sub hl [0] rfl))
theorem hd_X11_end : yX11_end.cls = RX11 ∧ yX11_end.cls ≠ "java/lang/invoke/MethodHandle" ∧ yX11_end.cls ≠ "java/lang/invoke/VarHandle" ∧ (parseMethodDescriptor yX11_end.desc).map (fun d => d.parameters.length) = some 1 := by decide +kernel
theorem fl_X11_end_11_7 : Cond.fieldLink RX11 57 "MoveTexts" "game" "LMoveTexts$Game;" ∈ wsX11_end := by decide +kernel
theorem fl_X11_end_1_6 : Cond.fieldLink RX11 257 "MoveTexts$Game" "result" "I" ∈ wsX11_end := by decide +kernel
theorem hw_X11_end_1 : ∀ w ∈ wsX10, w ∈ wsX11_end := by decide +kernel
theorem hw_X11_end_11 : ∀ w ∈ wsX110, w ∈ wsX11_end := by decide +kernel
theorem sr_X11_end_255 : (RX11, 255, "not a result", 27) ∈ zSR := by decide +kernel
theorem xt_X11_end_1 : zTx RX11 wsX11_end 1 144 148 := ⟨by decide +kernel, fun w hw => List.mem_cons_of_mem _ (List.mem_append_right _ hw), xh_1, xg_1⟩
def g_X11_end_9 (Pw : Int32 → ZS → Prop) (Px : Nat → ZS → Prop) (S : ZS) (C T : Nat) : Prop :=
  m_thrP (C) (T) 1 S Px

set_option maxRecDepth 100000 in
set_option maxHeartbeats 4000000 in
theorem w_X11_end_9 {p : Program} {l : Launch} {e : Env} {s : State} {m : MethodId} {args : Array Value} {below : List Frame} {meth : Method} {c : Code} {Q : State → Prop} {D : va_G} {y : Nat → ClassId} {A0 : Nat → Prop} {kc kt : Nat} {Pw : Int32 → ZS → Prop} {Px : Nat → ZS → Prop} (X : CallFix p m c cX11_end 2 s args wsX11_end RX11) (hret : zQv p l e ({ frames := 6, cells := kc, slots := kt, locals := 90 } : Room) s m args below meth c Q cX11_end D y A0 Pw) (hthr : zQx p l e ({ frames := 6, cells := kc, slots := kt, locals := 90 } : Room) s m args below meth c Q cX11_end D y A0 Px RX11 wsX11_end) {S : ZS} {C T : Nat} {H : Heap} {locs : List Loc} {ls : Array Slot} (hf : g_X11_end_9 Pw Px  S C T) (hCT : C ≤ kc ∧ T ≤ kt) (hM : zH D y A0 s H locs S) (hl : lv_has ls 2 []) : W p l e ({ frames := 6, cells := kc, slots := kt, locals := 90 } : Room) s m args below meth c H locs (kc - C) (kt - T) Q (F0 m 9 ls []) := by
  obtain ⟨hx, hb, hml, hown, hts⟩ := id X
  unfold g_X11_end_9 at hf
  exact hthr 1 _ _ _ H locs _ _ _ _ ls _ _ hf hCT hM (by rw [hml]; exact hl.1) xt_X11_end_1 sr_X11_end_255 ⟨dX11_end_9, dX11_end_12, Or.inl ⟨dX11_end_13, dX11_end_15, dX11_end_18⟩⟩
def g_X11_end_0 (Pw : Int32 → ZS → Prop) (Px : Nat → ZS → Prop) (x0 : Nat) (x1 : Int32) (S : ZS) (C T : Nat) : Prop :=
  m_ifQ (x1 < 0) (
  g_X11_end_9 Pw Px  S (C) (T)
  ) (
  m_ifQ (x1 < (4 : Int32)) (
  m_chkQ (zK S x0 = 11) (
  m_calP (zP S 7 x0) (fun b1 =>
  m_chkQ (zK S b1 = 1) (
  m_bndP (zsI S 6 b1 x1) (fun S2 =>
  Pw 0 S2))))
  ) (
  g_X11_end_9 Pw Px  S (C) (T)
  )
  )

set_option maxRecDepth 100000 in
set_option maxHeartbeats 4000000 in
theorem w_X11_end_0 {p : Program} {l : Launch} {e : Env} {s : State} {m : MethodId} {args : Array Value} {below : List Frame} {meth : Method} {c : Code} {Q : State → Prop} {D : va_G} {y : Nat → ClassId} {A0 : Nat → Prop} {kc kt : Nat} {Pw : Int32 → ZS → Prop} {Px : Nat → ZS → Prop} (X : CallFix p m c cX11_end 2 s args wsX11_end RX11) (hret : zQv p l e ({ frames := 6, cells := kc, slots := kt, locals := 90 } : Room) s m args below meth c Q cX11_end D y A0 Pw) (hthr : zQx p l e ({ frames := 6, cells := kc, slots := kt, locals := 90 } : Room) s m args below meth c Q cX11_end D y A0 Px RX11 wsX11_end) {x0 : Nat} {x1 : Int32} {S : ZS} {C T : Nat} {H : Heap} {locs : List Loc} {ls : Array Slot} (hf : g_X11_end_0 Pw Px x0 x1 S C T) (hCT : C ≤ kc ∧ T ≤ kt) (hM : zH D y A0 s H locs S) (hl : lv_has ls 2 [(0, .ref (zh y x0)), (1, .int x1)]) : W p l e ({ frames := 6, cells := kc, slots := kt, locals := 90 } : Room) s m args below meth c H locs (kc - C) (kt - T) Q (F0 m 0 ls []) := by
  obtain ⟨hx, hb, hml, hown, hts⟩ := id X
  unfold g_X11_end_0 at hf
  refine lv_iload_n hx hb dX11_end_0 rfl (lv_at hl 1 rfl) ?_
  refine lv_if_lt (tgt := 9) hx hb dX11_end_1 (by decide) (fun cc1 => ?_) (fun cc1 => ?_)
  · replace hf := m_ifPT hf cc1
    exact w_X11_end_9 X hret hthr hf hCT hM (lv_sub hl [] rfl)
  · replace hf := m_ifPF hf cc1
    refine lv_iload_n hx hb dX11_end_4 rfl (lv_at hl 1 rfl) ?_
    refine lv_iconst (v := (4 : Int32)) hx hb dX11_end_5 (by decide) ?_
    refine lv_icmp_lt (tgt := 19) hx hb dX11_end_6 (by decide) (fun cc1 => ?_) (fun cc1 => ?_)
    · replace hf := m_ifPT hf cc1
      refine lv_aload_n hx hb dX11_end_19 rfl (lv_at hl 0 rfl) ?_
      obtain ⟨ca, hf⟩ := m_chkPE hf
      replace ca := z_in hM (by decide) ca
      refine z_get (k := 11) (j := 7) (C := RX11) (T := TX11) (N := 10) (fl := zf_11) (v := va_rf ((zP S 7 x0).map (zh y))) X hw_X11_end_11 hM rfl zc_11 ca (by decide) fl_X11_end_11_7 rfl dX11_end_20 ?_
      clear ca
      obtain ⟨b1, hb9, hf⟩ := m_calPE hf
      refine z_topr hb9 ?_
      clear hb9
      refine lv_iload_n hx hb dX11_end_23 rfl (lv_at hl 1 rfl) ?_
      obtain ⟨ca, hf⟩ := m_chkPE hf
      replace ca := z_in hM (by decide) ca
      refine z_putI (k := 1) (j := 6) (C := RX1) (T := TX1) (N := 8) (fl := zf_1) (ty := .int) X hw_X11_end_1 tyX1_ok nmX1 hM rfl zc_1 ca (by decide) fl_X11_end_1_6 rfl (tyX1_ok 6 (by decide)) rfl rfl zi_1_6 (Nat.le_of_ble_eq_true rfl) dX11_end_24 (fun H locs hM => ?_)
      clear ca
      obtain ⟨S2, ev, hf⟩ := m_bndPE hf
      replace hM := z_hS hM ev
      clear ev
      exact hret _ _ _ H locs _ ls hf hM dX11_end_27
    · replace hf := m_ifPF hf cc1
      exact w_X11_end_9 X hret hthr hf hCT hM (lv_sub hl [] rfl)
def g_X11_end (x0 : Nat) (x1 : Int32) (S : ZS) (mc ms : Nat) (Pw : Int32 → ZS → Prop) (Px : Nat → ZS → Prop) : Prop := g_X11_end_0 Pw Px x0 x1 S mc ms
theorem c_X11_end {l : Launch} {D : va_G} {y : Nat → ClassId} {x0 : Nat} {x1 : Int32} {S : ZS} {kc kt : Nat} {Pw : Int32 → ZS → Prop} {Px : Nat → ZS → Prop} (hlt : l.stackTraces = false) (hf : g_X11_end x0 x1 S kc kt Pw Px) : zXv l yX11_end wsX11_end ({ frames := 6, cells := kc, slots := kt, locals := 90 } : Room) [.ref (zh y x0), .int x1] D y S kc kt Pw Px :=
  z_xentV hlt ⟨Nat.le_of_ble_eq_true rfl, Nat.le_of_ble_eq_true rfl⟩ (own := RX11) (cc := cX11_end) (maxL := 2) (by decide) rfl rfl (Nat.le_of_ble_eq_true rfl) ⟨rfl, rfl⟩ (fun p e s m args below meth c A0 Q H locs ls X hret hthr hM hl => w_X11_end_0 X hret hthr hf ⟨Nat.le_refl _, Nat.le_refl _⟩ hM (lv_sub hl [0, 1] rfl))
theorem hd_X11_tag : yX11_tag.cls = RX11 ∧ yX11_tag.cls ≠ "java/lang/invoke/MethodHandle" ∧ yX11_tag.cls ≠ "java/lang/invoke/VarHandle" ∧ (parseMethodDescriptor yX11_tag.desc).map (fun d => d.parameters.length) = some 3 := by decide +kernel
theorem fl_X11_tag_10_0 : Cond.fieldLink RX11 274 "MoveTexts$Tag" "name" "LMoveTexts$Row;" ∈ wsX11_tag := by decide +kernel
theorem fl_X11_tag_10_1 : Cond.fieldLink RX11 269 "MoveTexts$Tag" "value" "LMoveTexts$Row;" ∈ wsX11_tag := by decide +kernel
theorem fl_X11_tag_11_7 : Cond.fieldLink RX11 57 "MoveTexts" "game" "LMoveTexts$Game;" ∈ wsX11_tag := by decide +kernel
theorem fl_X11_tag_1_5 : Cond.fieldLink RX11 260 "MoveTexts$Game" "tagCount" "I" ∈ wsX11_tag := by decide +kernel
theorem hw_X11_tag_1 : ∀ w ∈ wsX10, w ∈ wsX11_tag := by decide +kernel
theorem hw_X11_tag_10 : ∀ w ∈ wsX100, w ∈ wsX11_tag := by decide +kernel
theorem hw_X11_tag_11 : ∀ w ∈ wsX110, w ∈ wsX11_tag := by decide +kernel
theorem sr_X11_tag_263 : (RX11, 263, "no such tag or character", 28) ∈ zSR := by decide +kernel
theorem xt_X11_tag_2 : zTx RX11 wsX11_tag 2 165 169 := ⟨by decide +kernel, fun w hw => List.mem_cons_of_mem _ (List.mem_append_right _ hw), xh_2, xg_2⟩
def g_X11_tag_19 (Pw : Int32 → ZS → Prop) (Px : Nat → ZS → Prop) (S : ZS) (C T : Nat) : Prop :=
  m_thrP (C) (T) 2 S Px

set_option maxRecDepth 100000 in
set_option maxHeartbeats 4000000 in
theorem w_X11_tag_19 {p : Program} {l : Launch} {e : Env} {s : State} {m : MethodId} {args : Array Value} {below : List Frame} {meth : Method} {c : Code} {Q : State → Prop} {D : va_G} {y : Nat → ClassId} {A0 : Nat → Prop} {kc kt : Nat} {Pw : Int32 → ZS → Prop} {Px : Nat → ZS → Prop} (X : CallFix p m c cX11_tag 5 s args wsX11_tag RX11) (hret : zQi p l e ({ frames := 6, cells := kc, slots := kt, locals := 90 } : Room) s m args below meth c Q cX11_tag D y A0 .int Pw) (hthr : zQx p l e ({ frames := 6, cells := kc, slots := kt, locals := 90 } : Room) s m args below meth c Q cX11_tag D y A0 Px RX11 wsX11_tag) {S : ZS} {C T : Nat} {H : Heap} {locs : List Loc} {ls : Array Slot} (hf : g_X11_tag_19 Pw Px  S C T) (hCT : C ≤ kc ∧ T ≤ kt) (hM : zH D y A0 s H locs S) (hl : lv_has ls 5 []) : W p l e ({ frames := 6, cells := kc, slots := kt, locals := 90 } : Room) s m args below meth c H locs (kc - C) (kt - T) Q (F0 m 19 ls []) := by
  obtain ⟨hx, hb, hml, hown, hts⟩ := id X
  unfold g_X11_tag_19 at hf
  exact hthr 2 _ _ _ H locs _ _ _ _ ls _ _ hf hCT hM (by rw [hml]; exact hl.1) xt_X11_tag_2 sr_X11_tag_263 ⟨dX11_tag_19, dX11_tag_22, Or.inr ⟨dX11_tag_23, dX11_tag_26, dX11_tag_29⟩⟩
def g_X11_tag_65 (Pw : Int32 → ZS → Prop) (Px : Nat → ZS → Prop) (t0 : Int32) (S : ZS) (C T : Nat) : Prop :=
  Pw t0 S

set_option maxRecDepth 100000 in
set_option maxHeartbeats 4000000 in
theorem w_X11_tag_65 {p : Program} {l : Launch} {e : Env} {s : State} {m : MethodId} {args : Array Value} {below : List Frame} {meth : Method} {c : Code} {Q : State → Prop} {D : va_G} {y : Nat → ClassId} {A0 : Nat → Prop} {kc kt : Nat} {Pw : Int32 → ZS → Prop} {Px : Nat → ZS → Prop} (X : CallFix p m c cX11_tag 5 s args wsX11_tag RX11) (hret : zQi p l e ({ frames := 6, cells := kc, slots := kt, locals := 90 } : Room) s m args below meth c Q cX11_tag D y A0 .int Pw) (hthr : zQx p l e ({ frames := 6, cells := kc, slots := kt, locals := 90 } : Room) s m args below meth c Q cX11_tag D y A0 Px RX11 wsX11_tag) {t0 : Int32} {S : ZS} {C T : Nat} {H : Heap} {locs : List Loc} {ls : Array Slot} (hf : g_X11_tag_65 Pw Px t0 S C T) (hCT : C ≤ kc ∧ T ≤ kt) (hM : zH D y A0 s H locs S) (hl : lv_has ls 5 []) : W p l e ({ frames := 6, cells := kc, slots := kt, locals := 90 } : Room) s m args below meth c H locs (kc - C) (kt - T) Q (F0 m 65 ls [.int t0]) := by
  obtain ⟨hx, hb, hml, hown, hts⟩ := id X
  unfold g_X11_tag_65 at hf
  exact hret _ _ _ _ H locs _ ls hf hM rfl dX11_tag_65
def g_X11_tag_0 (Pw : Int32 → ZS → Prop) (Px : Nat → ZS → Prop) (x0 : Nat) (x1 : Int32) (x2 : Int32) (x3 : Int32) (S : ZS) (C T : Nat) : Prop :=
  m_ifQ (x1 < 0) (
  g_X11_tag_19 Pw Px  S (C) (T)
  ) (
  m_chkQ (zK S x0 = 11) (
  m_calP (zP S 7 x0) (fun b1 =>
  m_chkQ (zK S b1 = 1) (
  m_ifQ ((zI S 5 b1) ≤ x1) (
  g_X11_tag_19 Pw Px  S (C) (T)
  ) (
  m_ifQ (0 ≤ x3) (
  m_chkQ (zK S x0 = 11) (
  m_calP (zP S 7 x0) (fun b2 =>
  m_chkQ (zK S b2 = 1) (
  m_galN (C) (T) (fun mc ms Pw => g_X1_tagAt b2 x1 S mc ms Pw) (fun r4 S5 C6 T7 =>
  m_ifQ (x2 = 0) (
  m_chkQ (zK S5 r4 = 10) (
  m_calP (zP S5 0 r4) (fun b8 =>
  m_chkQ (zK S5 b8 = 6) (
  m_calP (f_X6_at b8 x3 S5) (fun o9 =>
  g_X11_tag_65 Pw Px o9.1 o9.2 (C6) (T7)))))
  ) (
  m_chkQ (zK S5 r4 = 10) (
  m_calP (zP S5 1 r4) (fun b10 =>
  m_chkQ (zK S5 b10 = 6) (
  m_calP (f_X6_at b10 x3 S5) (fun o11 =>
  g_X11_tag_65 Pw Px o11.1 o11.2 (C6) (T7)))))
  )))))
  ) (
  g_X11_tag_19 Pw Px  S (C) (T)
  )
  ))))
  )

set_option maxRecDepth 100000 in
set_option maxHeartbeats 4000000 in
theorem w_X11_tag_0 {p : Program} {l : Launch} {e : Env} {s : State} {m : MethodId} {args : Array Value} {below : List Frame} {meth : Method} {c : Code} {Q : State → Prop} {D : va_G} {y : Nat → ClassId} {A0 : Nat → Prop} {kc kt : Nat} {Pw : Int32 → ZS → Prop} {Px : Nat → ZS → Prop} (X : CallFix p m c cX11_tag 5 s args wsX11_tag RX11) (hret : zQi p l e ({ frames := 6, cells := kc, slots := kt, locals := 90 } : Room) s m args below meth c Q cX11_tag D y A0 .int Pw) (hthr : zQx p l e ({ frames := 6, cells := kc, slots := kt, locals := 90 } : Room) s m args below meth c Q cX11_tag D y A0 Px RX11 wsX11_tag) {x0 : Nat} {x1 : Int32} {x2 : Int32} {x3 : Int32} {S : ZS} {C T : Nat} {H : Heap} {locs : List Loc} {ls : Array Slot} (hf : g_X11_tag_0 Pw Px x0 x1 x2 x3 S C T) (hCT : C ≤ kc ∧ T ≤ kt) (hM : zH D y A0 s H locs S) (hl : lv_has ls 5 [(0, .ref (zh y x0)), (1, .int x1), (2, .int x2), (3, .int x3)]) : W p l e ({ frames := 6, cells := kc, slots := kt, locals := 90 } : Room) s m args below meth c H locs (kc - C) (kt - T) Q (F0 m 0 ls []) := by
  obtain ⟨hx, hb, hml, hown, hts⟩ := id X
  unfold g_X11_tag_0 at hf
  refine lv_iload_n hx hb dX11_tag_0 rfl (lv_at hl 1 rfl) ?_
  refine lv_if_lt (tgt := 19) hx hb dX11_tag_1 (by decide) (fun cc1 => ?_) (fun cc1 => ?_)
  · replace hf := m_ifPT hf cc1
    exact w_X11_tag_19 X hret hthr hf hCT hM (lv_sub hl [] rfl)
  · replace hf := m_ifPF hf cc1
    refine lv_iload_n hx hb dX11_tag_4 rfl (lv_at hl 1 rfl) ?_
    refine lv_aload_n hx hb dX11_tag_5 rfl (lv_at hl 0 rfl) ?_
    obtain ⟨ca, hf⟩ := m_chkPE hf
    replace ca := z_in hM (by decide) ca
    refine z_get (k := 11) (j := 7) (C := RX11) (T := TX11) (N := 10) (fl := zf_11) (v := va_rf ((zP S 7 x0).map (zh y))) X hw_X11_tag_11 hM rfl zc_11 ca (by decide) fl_X11_tag_11_7 rfl dX11_tag_6 ?_
    clear ca
    obtain ⟨b1, hb9, hf⟩ := m_calPE hf
    refine z_topr hb9 ?_
    clear hb9
    obtain ⟨ca, hf⟩ := m_chkPE hf
    replace ca := z_in hM (by decide) ca
    refine z_get (k := 1) (j := 5) (C := RX1) (T := TX1) (N := 8) (fl := zf_1) (v := .int (zI S 5 b1)) X hw_X11_tag_1 hM rfl zc_1 ca (by decide) fl_X11_tag_1_5 rfl dX11_tag_9 ?_
    clear ca
    refine lv_icmp_ge (tgt := 19) hx hb dX11_tag_12 (by decide) (fun cc1 => ?_) (fun cc1 => ?_)
    · replace hf := m_ifPT hf cc1
      exact w_X11_tag_19 X hret hthr hf hCT hM (lv_sub hl [] rfl)
    · replace hf := m_ifPF hf cc1
      refine lv_iload_n hx hb dX11_tag_15 rfl (lv_at hl 3 rfl) ?_
      refine lv_if_ge (tgt := 30) hx hb dX11_tag_16 (by decide) (fun cc1 => ?_) (fun cc1 => ?_)
      · replace hf := m_ifPT hf cc1
        refine lv_aload_n hx hb dX11_tag_30 rfl (lv_at hl 0 rfl) ?_
        obtain ⟨ca, hf⟩ := m_chkPE hf
        replace ca := z_in hM (by decide) ca
        refine z_get (k := 11) (j := 7) (C := RX11) (T := TX11) (N := 10) (fl := zf_11) (v := va_rf ((zP S 7 x0).map (zh y))) X hw_X11_tag_11 hM rfl zc_11 ca (by decide) fl_X11_tag_11_7 rfl dX11_tag_31 ?_
        clear ca
        obtain ⟨b2, hb9, hf⟩ := m_calPE hf
        refine z_topr hb9 ?_
        clear hb9
        refine lv_iload_n hx hb dX11_tag_34 rfl (lv_at hl 1 rfl) ?_
        obtain ⟨ca, hf⟩ := m_chkPE hf
        replace ca := z_in hM (by decide) ca
        obtain ⟨mc, ms, hcm, ho⟩ := m_galNE hf
        refine z_wcallVr (k := 1) (C := RX1) (T := TX1) (N := 8) (fl := zf_1) X hM rfl zc_1 ca (c_X1_tagAt ho) gX11_tag_X1_tagAt rfl ⟨rfl, rfl⟩ ⟨by show kc - (C) + mc ≤ kc; omega, by show kt - (T) + ms ≤ kt; omega⟩ hd_X1_tagAt ⟨Nat.le_of_ble_eq_true rfl, Nat.le_of_ble_eq_true rfl⟩ rfl hl.1 rfl (Nat.le_of_ble_eq_true rfl) dX11_tag_35 (fun r4 S5 H locs hf hM => ?_)
        refine z_eqCS (c2 := kc - (C - mc)) (t2 := kt - (T - ms)) (by omega) (by omega) ?_
        replace hCT : C - mc ≤ kc ∧ T - ms ≤ kt := by omega
        generalize C - mc = C6 at hf hCT ⊢
        generalize T - ms = T7 at hf hCT ⊢
        clear ho hcm
        refine lv_astore (lv' := [(4, .ref (zh y r4)), (0, .ref (zh y x0)), (1, .int x1), (2, .int x2), (3, .int x3)]) hx hb dX11_tag_38 hl (by decide) rfl (fun ls hl => ?_)
        refine lv_iload_n hx hb dX11_tag_40 rfl (lv_at hl 3 rfl) ?_
        refine lv_if_eq (tgt := 56) hx hb dX11_tag_41 (by decide) (fun cc1 => ?_) (fun cc1 => ?_)
        · replace hf := m_ifPT hf cc1
          refine lv_aload hx hb dX11_tag_56 (lv_at hl 0 rfl) ?_
          obtain ⟨ca, hf⟩ := m_chkPE hf
          replace ca := z_in hM (by decide) ca
          refine z_get (k := 10) (j := 0) (C := RX10) (T := TX10) (N := 2) (fl := zf_10) (v := va_rf ((zP S5 0 r4).map (zh y))) X hw_X11_tag_10 hM rfl zc_10 ca (by decide) fl_X11_tag_10_0 rfl dX11_tag_58 ?_
          clear ca
          obtain ⟨b8, hb9, hf⟩ := m_calPE hf
          refine z_topr hb9 ?_
          clear hb9
          refine lv_iload_n hx hb dX11_tag_61 rfl (lv_at hl 4 rfl) ?_
          obtain ⟨ca, hf⟩ := m_chkPE hf
          replace ca := z_in hM (by decide) ca
          obtain ⟨o9, ho, hf⟩ := m_calPE hf
          refine z_gcallVi (k := 6) (C := RX6) (T := TX6) (N := 2) (fl := zf_6) X hM rfl zc_6 ca (c_X6_at ho) gX11_tag_X6_at rfl ⟨rfl, rfl⟩ hd_X6_at ⟨Nat.le_of_ble_eq_true rfl, Nat.le_of_ble_eq_true rfl⟩ rfl hl.1 rfl ⟨Nat.sub_le _ _, Nat.sub_le _ _⟩ (Nat.le_of_ble_eq_true rfl) dX11_tag_62 (fun H locs hM => ?_)
          clear ho
          exact w_X11_tag_65 (t0 := o9.1) X hret hthr hf hCT hM (lv_sub hl [] rfl)
        · replace hf := m_ifPF hf cc1
          refine lv_aload hx hb dX11_tag_44 (lv_at hl 0 rfl) ?_
          obtain ⟨ca, hf⟩ := m_chkPE hf
          replace ca := z_in hM (by decide) ca
          refine z_get (k := 10) (j := 1) (C := RX10) (T := TX10) (N := 2) (fl := zf_10) (v := va_rf ((zP S5 1 r4).map (zh y))) X hw_X11_tag_10 hM rfl zc_10 ca (by decide) fl_X11_tag_10_1 rfl dX11_tag_46 ?_
          clear ca
          obtain ⟨b10, hb9, hf⟩ := m_calPE hf
          refine z_topr hb9 ?_
          clear hb9
          refine lv_iload_n hx hb dX11_tag_49 rfl (lv_at hl 4 rfl) ?_
          obtain ⟨ca, hf⟩ := m_chkPE hf
          replace ca := z_in hM (by decide) ca
          obtain ⟨o11, ho, hf⟩ := m_calPE hf
          refine z_gcallVi (k := 6) (C := RX6) (T := TX6) (N := 2) (fl := zf_6) X hM rfl zc_6 ca (c_X6_at ho) gX11_tag_X6_at rfl ⟨rfl, rfl⟩ hd_X6_at ⟨Nat.le_of_ble_eq_true rfl, Nat.le_of_ble_eq_true rfl⟩ rfl hl.1 rfl ⟨Nat.sub_le _ _, Nat.sub_le _ _⟩ (Nat.le_of_ble_eq_true rfl) dX11_tag_50 (fun H locs hM => ?_)
          clear ho
          refine lv_goto (tgt := 65) hx hb dX11_tag_53 (by decide) ?_
          exact w_X11_tag_65 (t0 := o11.1) X hret hthr hf hCT hM (lv_sub hl [] rfl)
      · replace hf := m_ifPF hf cc1
        exact w_X11_tag_19 X hret hthr hf hCT hM (lv_sub hl [] rfl)
def g_X11_tag (x0 : Nat) (x1 : Int32) (x2 : Int32) (x3 : Int32) (S : ZS) (mc ms : Nat) (Pw : Int32 → ZS → Prop) (Px : Nat → ZS → Prop) : Prop := g_X11_tag_0 Pw Px x0 x1 x2 x3 S mc ms
theorem c_X11_tag {l : Launch} {D : va_G} {y : Nat → ClassId} {x0 : Nat} {x1 : Int32} {x2 : Int32} {x3 : Int32} {S : ZS} {kc kt : Nat} {Pw : Int32 → ZS → Prop} {Px : Nat → ZS → Prop} (hlt : l.stackTraces = false) (hf : g_X11_tag x0 x1 x2 x3 S kc kt Pw Px) : zXi l yX11_tag wsX11_tag ({ frames := 6, cells := kc, slots := kt, locals := 90 } : Room) [.ref (zh y x0), .int x1, .int x2, .int x3] D y S kc kt Pw Px :=
  z_xentI hlt ⟨Nat.le_of_ble_eq_true rfl, Nat.le_of_ble_eq_true rfl⟩ (own := RX11) (cc := cX11_tag) (maxL := 5) (by decide) rfl rfl (Nat.le_of_ble_eq_true rfl) ⟨rfl, rfl⟩ (fun p e s m args below meth c A0 Q H locs ls X hret hthr hM hl => w_X11_tag_0 X hret hthr hf ⟨Nat.le_refl _, Nat.le_refl _⟩ hM (lv_sub hl [0, 1, 2, 3] rfl))
