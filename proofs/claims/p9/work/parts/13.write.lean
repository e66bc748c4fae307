section ZLN
variable {p : Program} {l : Launch} {e : Env} {R : Room} {s : State} {m : MethodId} {args : Array Value} {below : List Frame} {meth : Method} {c : Code} {H : Heap} {locs : List Loc} {cells slots : Nat} {Q : State → Prop}
variable {cc : ByteArray} {pc nL : Nat} {ls : Array Slot} {rest : List Value} {D : va_G} {A0 : Nat → Prop} {Ts : List Cond} {y : Nat → ClassId} {S : ZS} {own : String} {a : Nat}
variable {q : MethodName} {ws ws' : List Cond} {rm : Room} {bytes : ByteArray} {maxL n index : Nat} {ret : Option FieldType} {As st : List Value} {C : String} {T : u_T} {N k mc ms : Nat} {Pw : Int32 → ZS → Prop}
theorem z_wcallVNv {host : String} {fl : (Nat → Int32) → (Nat → Option Nat) → List Value} (X : CallFix p m c cc nL s args Ts own) (hM : zH D y A0 s H locs S) (hnw : ((own, index, q, host) ∈ zNW ∧ Cond.initialized q.cls ∈ Ts) ∧ Cond.instanceMethod q ∈ Ts ∧ Cond.selects C q q ∈ Ts) (hcl : vwCl[k]? = some (C, T, N)) (hC : ∀ (I : Nat → Int32) (P : Nat → Option Nat) (n : Nat) (A : Nat → Int32) (B : Nat → Option Nat), zC y k I P n A B = .inr (k, fl I P)) (ha : a ∈ zL S ∧ zK S a = k) (hc : zWv l q ws rm (.ref (zh y a) :: As) D y S mc ms Pw) (hT : GoodIn Ts ws) (hw : ws = Cond.code q bytes maxL ret :: ws') (hrm : rm.cells = mc ∧ rm.slots = ms) (hcs : cells + mc ≤ R.cells ∧ slots + ms ≤ R.slots)
    (hd : q.cls ≠ "java/lang/invoke/MethodHandle" ∧ q.cls ≠ "java/lang/invoke/VarHandle" ∧ (parseMethodDescriptor q.desc).map (fun d => d.parameters.length) = some n) (hR : rm.frames + 1 ≤ R.frames ∧ 8 + (maxL + 11) + rm.locals ≤ R.locals) (hn : As.length = n) (hls : ls.size = nL) (hst : st = As.reverse ++ .ref (zh y a) :: rest) (hrest : (rest.map fun v => v.category).sum ≤ 8) (hdg : decode cc pc = .ok (.invokevirtual index, 3))
    (kk : ∀ (S1 : ZS) (H : Heap) (locs : List Loc), Pw 0 S1 → zH D y A0 s H locs S1 → W p l e R s m args below meth c H locs (cells + mc) (slots + ms) Q (F0 m (pc + 3) ls rest)) : W p l e R s m args below meth c H locs cells slots Q (F0 m pc ls st) := by
  subst hst
  have hF := z_free hM
  refine va_callv (va_runVN (host := host) (C := C) (As := As) (rest := rest) X (hc H.size) ⟨va_cnB n X.2.2.2.2 hT hw hrm.1 hrm.2 (hM.2.2.2.2.2.1.1 _ hnw.1.1) (X.2.2.2.2 _ hnw.1.2) hd hR, X.2.2.2.2 _ hnw.2.1, X.2.2.2.2 _ hnw.2.2⟩ (z_preV hcl hC ha hM) rfl hn hls rfl (lv_room hrest) hdg hcs) hM.2.2.1 (fun q _ hq => hF q hq) hF (fun u t H1 locs1 ht hvm hw1 hB hz1 hk1 hS => ?_)
  obtain ⟨hP, hD, hS0, hK, hA, hE⟩ := hM
  obtain ⟨hB', hD', hZ'⟩ : va_P D vwCl (zW y u) t.heap ∧ va_D (va_A (zW y S) H.size) (zW y u) ∧ zG y u t.heap.size := hB
  rw [ht] at hB' hZ'
  exact kk u H1 locs1 hw1 ⟨hB', hD'.weaken (fun _ q _ h9 => hF q.1 h9), hS, hK, hA, hE.1, hZ'⟩
end ZLN
theorem hd_X11_write : yX11_write.cls = RX11 ∧ yX11_write.cls ≠ "java/lang/invoke/MethodHandle" ∧ yX11_write.cls ≠ "java/lang/invoke/VarHandle" ∧ (parseMethodDescriptor yX11_write.desc).map (fun d => d.parameters.length) = some 0 := by decide +kernel
theorem fl_X11_write_11_1 : Cond.fieldLink RX11 16 "MoveTexts" "out" "LMoveTexts$Row;" ∈ wsX11_write := by decide +kernel
theorem fl_X11_write_11_6 : Cond.fieldLink RX11 50 "MoveTexts" "gameWriter" "LMoveTexts$GameWriter;" ∈ wsX11_write := by decide +kernel
theorem fl_X11_write_11_7 : Cond.fieldLink RX11 57 "MoveTexts" "game" "LMoveTexts$Game;" ∈ wsX11_write := by decide +kernel
theorem fl_X11_write_4_2 : Cond.fieldLink RX11 128 "MoveTexts$Node" "first" "I" ∈ wsX11_write := by decide +kernel
theorem hw_X11_write_11 : ∀ w ∈ wsX110, w ∈ wsX11_write := by decide +kernel
theorem hw_X11_write_4 : ∀ w ∈ wsX40, w ∈ wsX11_write := by decide +kernel
theorem vn_X11_write_133 : ((RX11, 133, yX3_putLine, "MoveTexts") ∈ zNW ∧ Cond.initialized yX3_putLine.cls ∈ wsX11_write) ∧ Cond.instanceMethod yX3_putLine ∈ wsX11_write ∧ Cond.selects RX3 yX3_putLine yX3_putLine ∈ wsX11_write := by decide +kernel
def g_X11_write_0 (Pw : Int32 → ZS → Prop) (x0 : Nat) (S : ZS) (C T : Nat) : Prop :=
  m_chkQ (zK S x0 = 11) (
  m_calP (zP S 1 x0) (fun b1 =>
  m_chkQ (zK S b1 = 6) (
  m_calP (f_X6_keep b1 (0 : Int32) S) (fun o2 =>
  m_chkQ (zK o2.2 x0 = 11) (
  m_calP (zP o2.2 6 x0) (fun b3 =>
  m_chkQ (zK o2.2 x0 = 11) (
  m_calP (zP o2.2 7 x0) (fun b4 =>
  m_chkQ (zK o2.2 x0 = 11) (
  m_calP (zP o2.2 1 x0) (fun b5 =>
  m_chkQ (zK o2.2 b3 = 3) (
  m_gal (C) (T) (fun mc ms Pw => g_X3_putHead b3 b4 b5 o2.2 mc ms Pw) (fun r7 S8 C9 T10 =>
  m_chkQ (zK S8 x0 = 11) (
  m_calP (zP S8 6 x0) (fun b11 =>
  m_chkQ (zK S8 x0 = 11) (
  m_calP (zP S8 7 x0) (fun b12 =>
  m_chkQ (zK S8 x0 = 11) (
  m_calP (zP S8 7 x0) (fun b13 =>
  m_chkQ (zK S8 b13 = 1) (
  m_calP (f_X1_at b13 (0 : Int32) S8) (fun o14 =>
  m_chkQ (zK o14.2 o14.1 = 4) (
  m_chkQ (zK o14.2 x0 = 11) (
  m_calP (zP o14.2 1 x0) (fun b15 =>
  m_chkQ (zK o14.2 b11 = 3) (
  m_gal (C9) (T10) (fun mc ms Pw => g_X3_putLine b11 b12 (zI o14.2 2 o14.1) (0 : Int32) b15 o14.2 mc ms Pw) (fun r17 S18 C19 T20 =>
  m_chkQ (zK S18 x0 = 11) (
  m_calP (zP S18 6 x0) (fun b21 =>
  m_chkQ (zK S18 x0 = 11) (
  m_calP (zP S18 7 x0) (fun b22 =>
  m_chkQ (zK S18 x0 = 11) (
  m_calP (zP S18 1 x0) (fun b23 =>
  m_chkQ (zK S18 b21 = 3) (
  m_gal (C19) (T20) (fun mc ms Pw => g_X3_putEnd b21 b22 b23 S18 mc ms Pw) (fun r25 S26 C27 T28 =>
  m_chkQ (zK S26 x0 = 11) (
  m_calP (zP S26 1 x0) (fun b29 =>
  m_chkQ (zK S26 b29 = 6) (
  m_calP (f_X6_size b29 S26) (fun o30 =>
  Pw o30.1 o30.2)))))))))))))))))))))))))))))))))))))

set_option maxRecDepth 100000 in
set_option maxHeartbeats 4000000 in
theorem w_X11_write_0 {p : Program} {l : Launch} {e : Env} {s : State} {m : MethodId} {args : Array Value} {below : List Frame} {meth : Method} {c : Code} {Q : State → Prop} {D : va_G} {y : Nat → ClassId} {A0 : Nat → Prop} {kc kt : Nat} {Pw : Int32 → ZS → Prop} (X : CallFix p m c cX11_write 1 s args wsX11_write RX11) (hret : zQi p l e ({ frames := 16, cells := kc, slots := kt, locals := 464 } : Room) s m args below meth c Q cX11_write D y A0 .int Pw) {x0 : Nat} {S : ZS} {C T : Nat} {H : Heap} {locs : List Loc} {ls : Array Slot} (hf : g_X11_write_0 Pw x0 S C T) (hCT : C ≤ kc ∧ T ≤ kt) (hM : zH D y A0 s H locs S) (hl : lv_has ls 1 [(0, .ref (zh y x0))]) : W p l e ({ frames := 16, cells := kc, slots := kt, locals := 464 } : Room) s m args below meth c H locs (kc - C) (kt - T) Q (F0 m 0 ls []) := by
  obtain ⟨hx, hb, hml, hown, hts⟩ := id X
  unfold g_X11_write_0 at hf
  refine lv_aload_n hx hb dX11_write_0 rfl (lv_at hl 0 rfl) ?_
  obtain ⟨ca, hf⟩ := m_chkPE hf
  replace ca := z_in hM (by decide) ca
  refine z_get (k := 11) (j := 1) (C := RX11) (T := TX11) (N := 10) (fl := zf_11) (v := va_rf ((zP S 1 x0).map (zh y))) X hw_X11_write_11 hM rfl zc_11 ca (by decide) fl_X11_write_11_1 rfl dX11_write_1 ?_
  clear ca
  obtain ⟨b1, hb9, hf⟩ := m_calPE hf
  refine z_topr hb9 ?_
  clear hb9
  refine lv_iconst (v := (0 : Int32)) hx hb dX11_write_4 (by decide) ?_
  obtain ⟨ca, hf⟩ := m_chkPE hf
  replace ca := z_in hM (by decide) ca
  obtain ⟨o2, ho, hf⟩ := m_calPE hf
  refine z_gcallVv (k := 6) (C := RX6) (T := TX6) (N := 2) (fl := zf_6) X hM rfl zc_6 ca (c_X6_keep ho) gX11_write_X6_keep rfl ⟨rfl, rfl⟩ hd_X6_keep ⟨Nat.le_of_ble_eq_true rfl, Nat.le_of_ble_eq_true rfl⟩ rfl hl.1 rfl ⟨Nat.sub_le _ _, Nat.sub_le _ _⟩ (Nat.le_of_ble_eq_true rfl) dX11_write_5 (fun H locs hM => ?_)
  clear ho
  refine lv_aload_n hx hb dX11_write_8 rfl (lv_at hl 0 rfl) ?_
  obtain ⟨ca, hf⟩ := m_chkPE hf
  replace ca := z_in hM (by decide) ca
  refine z_get (k := 11) (j := 6) (C := RX11) (T := TX11) (N := 10) (fl := zf_11) (v := va_rf ((zP o2.2 6 x0).map (zh y))) X hw_X11_write_11 hM rfl zc_11 ca (by decide) fl_X11_write_11_6 rfl dX11_write_9 ?_
  clear ca
  obtain ⟨b3, hb9, hf⟩ := m_calPE hf
  refine z_topr hb9 ?_
  clear hb9
  refine lv_aload_n hx hb dX11_write_12 rfl (lv_at hl 0 rfl) ?_
  obtain ⟨ca, hf⟩ := m_chkPE hf
  replace ca := z_in hM (by decide) ca
  refine z_get (k := 11) (j := 7) (C := RX11) (T := TX11) (N := 10) (fl := zf_11) (v := va_rf ((zP o2.2 7 x0).map (zh y))) X hw_X11_write_11 hM rfl zc_11 ca (by decide) fl_X11_write_11_7 rfl dX11_write_13 ?_
  clear ca
  obtain ⟨b4, hb9, hf⟩ := m_calPE hf
  refine z_topr hb9 ?_
  clear hb9
  refine lv_aload_n hx hb dX11_write_16 rfl (lv_at hl 0 rfl) ?_
  obtain ⟨ca, hf⟩ := m_chkPE hf
  replace ca := z_in hM (by decide) ca
  refine z_get (k := 11) (j := 1) (C := RX11) (T := TX11) (N := 10) (fl := zf_11) (v := va_rf ((zP o2.2 1 x0).map (zh y))) X hw_X11_write_11 hM rfl zc_11 ca (by decide) fl_X11_write_11_1 rfl dX11_write_17 ?_
  clear ca
  obtain ⟨b5, hb9, hf⟩ := m_calPE hf
  refine z_topr hb9 ?_
  clear hb9
  obtain ⟨ca, hf⟩ := m_chkPE hf
  replace ca := z_in hM (by decide) ca
  obtain ⟨mc, ms, hcm, ho⟩ := m_galE hf
  refine z_wcallVv (k := 3) (C := RX3) (T := TX3) (N := 2) (fl := zf_3) X hM rfl zc_3 ca (c_X3_putHead ho) gX11_write_X3_putHead rfl ⟨rfl, rfl⟩ ⟨by show kc - (C) + mc ≤ kc; omega, by show kt - (T) + ms ≤ kt; omega⟩ hd_X3_putHead ⟨Nat.le_of_ble_eq_true rfl, Nat.le_of_ble_eq_true rfl⟩ rfl hl.1 rfl (Nat.le_of_ble_eq_true rfl) dX11_write_20 (fun S8 H locs hf hM => ?_)
  refine z_eqCS (c2 := kc - (C - mc)) (t2 := kt - (T - ms)) (by omega) (by omega) ?_
  replace hCT : C - mc ≤ kc ∧ T - ms ≤ kt := by omega
  generalize C - mc = C9 at hf hCT ⊢
  generalize T - ms = T10 at hf hCT ⊢
  clear ho hcm
  refine lv_aload_n hx hb dX11_write_23 rfl (lv_at hl 0 rfl) ?_
  obtain ⟨ca, hf⟩ := m_chkPE hf
  replace ca := z_in hM (by decide) ca
  refine z_get (k := 11) (j := 6) (C := RX11) (T := TX11) (N := 10) (fl := zf_11) (v := va_rf ((zP S8 6 x0).map (zh y))) X hw_X11_write_11 hM rfl zc_11 ca (by decide) fl_X11_write_11_6 rfl dX11_write_24 ?_
  clear ca
  obtain ⟨b11, hb9, hf⟩ := m_calPE hf
  refine z_topr hb9 ?_
  clear hb9
  refine lv_aload_n hx hb dX11_write_27 rfl (lv_at hl 0 rfl) ?_
  obtain ⟨ca, hf⟩ := m_chkPE hf
  replace ca := z_in hM (by decide) ca
  refine z_get (k := 11) (j := 7) (C := RX11) (T := TX11) (N := 10) (fl := zf_11) (v := va_rf ((zP S8 7 x0).map (zh y))) X hw_X11_write_11 hM rfl zc_11 ca (by decide) fl_X11_write_11_7 rfl dX11_write_28 ?_
  clear ca
  obtain ⟨b12, hb9, hf⟩ := m_calPE hf
  refine z_topr hb9 ?_
  clear hb9
  refine lv_aload_n hx hb dX11_write_31 rfl (lv_at hl 0 rfl) ?_
  obtain ⟨ca, hf⟩ := m_chkPE hf
  replace ca := z_in hM (by decide) ca
  refine z_get (k := 11) (j := 7) (C := RX11) (T := TX11) (N := 10) (fl := zf_11) (v := va_rf ((zP S8 7 x0).map (zh y))) X hw_X11_write_11 hM rfl zc_11 ca (by decide) fl_X11_write_11_7 rfl dX11_write_32 ?_
  clear ca
  obtain ⟨b13, hb9, hf⟩ := m_calPE hf
  refine z_topr hb9 ?_
  clear hb9
  refine lv_iconst (v := (0 : Int32)) hx hb dX11_write_35 (by decide) ?_
  obtain ⟨ca, hf⟩ := m_chkPE hf
  replace ca := z_in hM (by decide) ca
  obtain ⟨o14, ho, hf⟩ := m_calPE hf
  refine z_gcallVr (k := 1) (C := RX1) (T := TX1) (N := 8) (fl := zf_1) X hM rfl zc_1 ca (c_X1_at ho) gX11_write_X1_at rfl ⟨rfl, rfl⟩ hd_X1_at ⟨Nat.le_of_ble_eq_true rfl, Nat.le_of_ble_eq_true rfl⟩ rfl hl.1 rfl ⟨Nat.sub_le _ _, Nat.sub_le _ _⟩ (Nat.le_of_ble_eq_true rfl) dX11_write_36 (fun H locs hM => ?_)
  clear ho
  obtain ⟨ca, hf⟩ := m_chkPE hf
  replace ca := z_in hM (by decide) ca
  refine z_get (k := 4) (j := 2) (C := RX4) (T := TX4) (N := 7) (fl := zf_4) (v := .int (zI o14.2 2 o14.1)) X hw_X11_write_4 hM rfl zc_4 ca (by decide) fl_X11_write_4_2 rfl dX11_write_39 ?_
  clear ca
  refine lv_iconst (v := (0 : Int32)) hx hb dX11_write_42 (by decide) ?_
  refine lv_aload_n hx hb dX11_write_43 rfl (lv_at hl 0 rfl) ?_
  obtain ⟨ca, hf⟩ := m_chkPE hf
  replace ca := z_in hM (by decide) ca
  refine z_get (k := 11) (j := 1) (C := RX11) (T := TX11) (N := 10) (fl := zf_11) (v := va_rf ((zP o14.2 1 x0).map (zh y))) X hw_X11_write_11 hM rfl zc_11 ca (by decide) fl_X11_write_11_1 rfl dX11_write_44 ?_
  clear ca
  obtain ⟨b15, hb9, hf⟩ := m_calPE hf
  refine z_topr hb9 ?_
  clear hb9
  obtain ⟨ca, hf⟩ := m_chkPE hf
  replace ca := z_in hM (by decide) ca
  obtain ⟨mc, ms, hcm, ho⟩ := m_galE hf
  refine z_wcallVNv (k := 3) (C := RX3) (T := TX3) (N := 2) (fl := zf_3) X hM vn_X11_write_133 rfl zc_3 ca (c_X3_putLine ho) gX11_write_X3_putLine_n133 rfl ⟨rfl, rfl⟩ ⟨by show kc - (C9) + mc ≤ kc; omega, by show kt - (T10) + ms ≤ kt; omega⟩ hd_X3_putLine.2 ⟨Nat.le_of_ble_eq_true rfl, Nat.le_of_ble_eq_true rfl⟩ rfl hl.1 rfl (Nat.le_of_ble_eq_true rfl) dX11_write_47 (fun S18 H locs hf hM => ?_)
  refine z_eqCS (c2 := kc - (C9 - mc)) (t2 := kt - (T10 - ms)) (by omega) (by omega) ?_
  replace hCT : C9 - mc ≤ kc ∧ T10 - ms ≤ kt := by omega
  generalize C9 - mc = C19 at hf hCT ⊢
  generalize T10 - ms = T20 at hf hCT ⊢
  clear ho hcm
  refine lv_aload_n hx hb dX11_write_50 rfl (lv_at hl 0 rfl) ?_
  obtain ⟨ca, hf⟩ := m_chkPE hf
  replace ca := z_in hM (by decide) ca
  refine z_get (k := 11) (j := 6) (C := RX11) (T := TX11) (N := 10) (fl := zf_11) (v := va_rf ((zP S18 6 x0).map (zh y))) X hw_X11_write_11 hM rfl zc_11 ca (by decide) fl_X11_write_11_6 rfl dX11_write_51 ?_
  clear ca
  obtain ⟨b21, hb9, hf⟩ := m_calPE hf
  refine z_topr hb9 ?_
  clear hb9
  refine lv_aload_n hx hb dX11_write_54 rfl (lv_at hl 0 rfl) ?_
  obtain ⟨ca, hf⟩ := m_chkPE hf
  replace ca := z_in hM (by decide) ca
  refine z_get (k := 11) (j := 7) (C := RX11) (T := TX11) (N := 10) (fl := zf_11) (v := va_rf ((zP S18 7 x0).map (zh y))) X hw_X11_write_11 hM rfl zc_11 ca (by decide) fl_X11_write_11_7 rfl dX11_write_55 ?_
  clear ca
  obtain ⟨b22, hb9, hf⟩ := m_calPE hf
  refine z_topr hb9 ?_
  clear hb9
  refine lv_aload_n hx hb dX11_write_58 rfl (lv_at hl 0 rfl) ?_
  obtain ⟨ca, hf⟩ := m_chkPE hf
  replace ca := z_in hM (by decide) ca
  refine z_get (k := 11) (j := 1) (C := RX11) (T := TX11) (N := 10) (fl := zf_11) (v := va_rf ((zP S18 1 x0).map (zh y))) X hw_X11_write_11 hM rfl zc_11 ca (by decide) fl_X11_write_11_1 rfl dX11_write_59 ?_
  clear ca
  obtain ⟨b23, hb9, hf⟩ := m_calPE hf
  refine z_topr hb9 ?_
  clear hb9
  obtain ⟨ca, hf⟩ := m_chkPE hf
  replace ca := z_in hM (by decide) ca
  obtain ⟨mc, ms, hcm, ho⟩ := m_galE hf
  refine z_wcallVv (k := 3) (C := RX3) (T := TX3) (N := 2) (fl := zf_3) X hM rfl zc_3 ca (c_X3_putEnd ho) gX11_write_X3_putEnd rfl ⟨rfl, rfl⟩ ⟨by show kc - (C19) + mc ≤ kc; omega, by show kt - (T20) + ms ≤ kt; omega⟩ hd_X3_putEnd ⟨Nat.le_of_ble_eq_true rfl, Nat.le_of_ble_eq_true rfl⟩ rfl hl.1 rfl (Nat.le_of_ble_eq_true rfl) dX11_write_62 (fun S26 H locs hf hM => ?_)
  refine z_eqCS (c2 := kc - (C19 - mc)) (t2 := kt - (T20 - ms)) (by omega) (by omega) ?_
  replace hCT : C19 - mc ≤ kc ∧ T20 - ms ≤ kt := by omega
  generalize C19 - mc = C27 at hf hCT ⊢
  generalize T20 - ms = T28 at hf hCT ⊢
  clear ho hcm
  refine lv_aload_n hx hb dX11_write_65 rfl (lv_at hl 0 rfl) ?_
  obtain ⟨ca, hf⟩ := m_chkPE hf
  replace ca := z_in hM (by decide) ca
  refine z_get (k := 11) (j := 1) (C := RX11) (T := TX11) (N := 10) (fl := zf_11) (v := va_rf ((zP S26 1 x0).map (zh y))) X hw_X11_write_11 hM rfl zc_11 ca (by decide) fl_X11_write_11_1 rfl dX11_write_66 ?_
  clear ca
  obtain ⟨b29, hb9, hf⟩ := m_calPE hf
  refine z_topr hb9 ?_
  clear hb9
  obtain ⟨ca, hf⟩ := m_chkPE hf
  replace ca := z_in hM (by decide) ca
  obtain ⟨o30, ho, hf⟩ := m_calPE hf
  refine z_gcallVi (k := 6) (C := RX6) (T := TX6) (N := 2) (fl := zf_6) X hM rfl zc_6 ca (c_X6_size ho) gX11_write_X6_size rfl ⟨rfl, rfl⟩ hd_X6_size ⟨Nat.le_of_ble_eq_true rfl, Nat.le_of_ble_eq_true rfl⟩ rfl hl.1 rfl ⟨Nat.sub_le _ _, Nat.sub_le _ _⟩ (Nat.le_of_ble_eq_true rfl) dX11_write_69 (fun H locs hM => ?_)
  clear ho
  exact hret _ _ _ _ H locs _ ls hf hM rfl dX11_write_72
def g_X11_write (x0 : Nat) (S : ZS) (mc ms : Nat) (Pw : Int32 → ZS → Prop) : Prop := g_X11_write_0 Pw x0 S mc ms
theorem c_X11_write {l : Launch} {D : va_G} {y : Nat → ClassId} {x0 : Nat} {S : ZS} {kc kt : Nat} {Pw : Int32 → ZS → Prop} (hf : g_X11_write x0 S kc kt Pw) : zWi l yX11_write wsX11_write ({ frames := 16, cells := kc, slots := kt, locals := 464 } : Room) [.ref (zh y x0)] D y S kc kt Pw :=
  z_wentI (own := RX11) (cc := cX11_write) (maxL := 1) (by decide) rfl rfl (Nat.le_of_ble_eq_true rfl) ⟨rfl, rfl⟩ (fun p e s m args below meth c A0 Q H locs ls X hret hM hl => w_X11_write_0 X hret hf ⟨Nat.le_refl _, Nat.le_refl _⟩ hM (lv_sub hl [0] rfl))
