section LC
variable {p : Program} {l : Launch} {e : Env} {R : Room} {s : State} {m : MethodId} {args : Array Value} {below : List Frame} {meth : Method} {c : Code} {H : Heap} {locs : List Loc} {cells slots : Nat} {Q : State → Prop}
variable {cc : ByteArray} {pc nL : Nat} {ls : Array Slot} {rest : List Value} {D : va_G} {A0 : Nat → Prop} {Ts : List Cond} {y : Nat → ClassId} {S : ZS} {own : String} {a ob : Nat} {cJ : ClassId} {F : Nat → Int64} {h : Nat → Nat} {I : Nat → Int32} {A : Nat → Nat → Int32}
variable {q : MethodName} {ws ws' : List Cond} {rm : Room} {bytes : ByteArray} {maxL n index : Nat} {ret : Option FieldType} {As st : List Value} {mc ms : Nat} {Pw : Int32 → ZS → Prop} {Px : Nat → ZS → Prop}
theorem LH_post {H1 : Heap} {locs1 : List Loc} {S1 : ZS} {F1 : Nat → Int64} (hM : LH D y h ob cJ A0 s H locs I A S F) (h0 : LH0 D y ob cJ A0 s H1 locs1 S1 F1) (hD : va_D (va_A (zW y S) H.size) (zW y S1)) (hk : ∀ q : Nat, q < H.size → ¬ va_A (zW y S) H.size q → H1[q]? = H[q]?) : LH D y h ob cJ A0 s H1 locs1 I A S1 F1 :=
  ⟨h0, L_mkeep hM.2.1 (fun q hq => hk q (L_mlt hM.2.1 hq) (l_notA (L_mlt hM.2.1 hq) (hM.2.2.2 q hq).2)), hM.2.2.1, fun q hq => ⟨(hM.2.2.2 q hq).1, l_new hD (L_mlt hM.2.1 hq) (hM.2.2.2 q hq).2⟩⟩
/-- the law calls a method of the class that makes cells -/
theorem L_cwi (X : CallFix p m c cc nL s args Ts RL) (hM : LH D y h ob cJ A0 s H locs I A S F) (ha : a ∈ zL S ∧ zK S a = 11) (hc : zWi l q ws rm (.ref (zh y a) :: As) D y S mc ms Pw) (hT : GoodIn Ts (wsV RL index RX11 q ws)) (hw : ws = Cond.code q bytes maxL ret :: ws') (hrm : rm.cells = mc ∧ rm.slots = ms) (hcs : cells + mc ≤ R.cells ∧ slots + ms ≤ R.slots)
    (hd : q.cls = RX11 ∧ q.cls ≠ "java/lang/invoke/MethodHandle" ∧ q.cls ≠ "java/lang/invoke/VarHandle" ∧ (parseMethodDescriptor q.desc).map (fun d => d.parameters.length) = some n) (hR : rm.frames + 1 ≤ R.frames ∧ 8 + (maxL + 11) + rm.locals ≤ R.locals) (hn : As.length = n) (hls : ls.size = nL) (hst : st = As.reverse ++ .ref (zh y a) :: rest) (hrest : (rest.map fun v => v.category).sum ≤ 8) (hdg : decode cc pc = .ok (.invokevirtual index, 3))
    (kk : ∀ (r : Int32) (S1 : ZS) (H : Heap) (locs : List Loc), Pw r S1 → LH D y h ob cJ A0 s H locs I A S1 F → W p l e R s m args below meth c H locs (cells + mc) (slots + ms) Q (F0 m (pc + 3) ls (.int r :: rest))) : W p l e R s m args below meth c H locs cells slots Q (F0 m pc ls st) := by
  subst hst
  have hF := z_free hM.1.1
  refine va_calli (va_runV (C := RX11) (As := As) (rest := rest) X (hc H.size) (cwV n X.2.2.2.2 hT hw hrm.1 hrm.2 hd hR) (z_preV (k := 11) (C := RX11) (T := TX11) (N := 10) (fl := zf_11) rfl zc_11 ha hM.1.1) rfl hn hls rfl (lv_room hrest) hdg hcs) hM.1.1.2.2.1 (fun q _ hq => hF q hq) hF (fun r u t H1 locs1 ht hvm hp hB hz1 hk1 hS => ?_)
  obtain ⟨hP1, hD1, hG1⟩ := hB
  rw [ht] at hP1 hG1
  exact kk r u H1 locs1 hp (LH_post hM (L_xpost hM.1 hP1 hD1 hG1 hk1 hS) hD1 hk1)
/-- .. one that makes none -/
theorem L_czi {o : Int32 × ZS} (X : CallFix p m c cc nL s args Ts RL) (hM : LH D y h ob cJ A0 s H locs I A S F) (ha : a ∈ zL S ∧ zK S a = 11) (hc : zMi l q ws rm (.ref (zh y a) :: As) D y S o) (hT : GoodIn Ts (wsV RL index RX11 q ws)) (hw : ws = Cond.code q bytes maxL ret :: ws') (hrm : rm.cells = 0 ∧ rm.slots = 0) (hcs : cells ≤ R.cells ∧ slots ≤ R.slots)
    (hd : q.cls = RX11 ∧ q.cls ≠ "java/lang/invoke/MethodHandle" ∧ q.cls ≠ "java/lang/invoke/VarHandle" ∧ (parseMethodDescriptor q.desc).map (fun d => d.parameters.length) = some n) (hR : rm.frames + 1 ≤ R.frames ∧ 8 + (maxL + 11) + rm.locals ≤ R.locals) (hn : As.length = n) (hls : ls.size = nL) (hst : st = As.reverse ++ .ref (zh y a) :: rest) (hrest : (rest.map fun v => v.category).sum ≤ 8) (hdg : decode cc pc = .ok (.invokevirtual index, 3))
    (kk : ∀ (H : Heap) (locs : List Loc), LH D y h ob cJ A0 s H locs I A o.2 F → W p l e R s m args below meth c H locs cells slots Q (F0 m (pc + 3) ls (.int o.1 :: rest))) : W p l e R s m args below meth c H locs cells slots Q (F0 m pc ls st) := by
  subst hst
  have hF := z_free hM.1.1
  refine va_calli (va_runV (C := RX11) (As := As) (rest := rest) X (hc H.size) (cwV n X.2.2.2.2 hT hw hrm.1 hrm.2 hd hR) (z_preV (k := 11) (C := RX11) (T := TX11) (N := 10) (fl := zf_11) rfl zc_11 ha hM.1.1) rfl hn hls rfl (lv_room hrest) hdg hcs) hM.1.1.2.2.1 (fun q _ hq => hF q hq) hF (fun r u t H1 locs1 ht hvm hp hB hz1 hk1 hS => ?_)
  obtain ⟨hP1, hD1, hG1⟩ := hB
  rw [ht] at hP1 hG1
  have hp' : r = o.1 := hp
  subst hp'
  exact kk H1 locs1 (LH_post hM (L_xpost hM.1 hP1 hD1 hG1 hk1 hS) hD1 hk1)
theorem L_mnotA {sz x : Nat} (hq : x < sz) (hn : x ∉ mAd h) : ¬ va_A (mW (y 13) (y 14) h I A) sz x := by
  rintro (⟨k, e1, hk⟩ | h1)
  · exact hn (mAd_at hk)
  · exact absurd hq (Nat.not_lt.mpr h1)
theorem L_mpost {H1 : Heap} {locs1 : List Loc} {I1 : Nat → Int32} {A1 : Nat → Nat → Int32} (hM : LH D y h ob cJ A0 s H locs I A S F) (hP : va_P D vwCl (mW (y 13) (y 14) h I1 A1) H1) (hz : H1.size = H.size) (hk : ∀ q : Nat, q < H.size → ¬ va_A (mW (y 13) (y 14) h I A) H.size q → H1[q]? = H[q]?) (hS : va_S A0 s.heap H1 locs1) : LH D y h ob cJ A0 s H1 locs1 I1 A1 S F := by
  obtain ⟨⟨hz0, hPo, hob, hne, hX⟩, hPm, hDm, hnm⟩ := hM
  have ho := L_oblt hPo
  refine ⟨⟨⟨hz0.1.kept (fun k x hx => ?_), hz0.2.1, hS, hz0.2.2.2.1, hz0.2.2.2.2.1, hz0.2.2.2.2.2.1, zG_put hz0.2.2.2.2.2.2 hz rfl⟩, L_okeep hPo (hk ob ho (L_mnotA ho (fun h9 => (hnm ob h9).1 rfl))), hob, hne, hX⟩, hP, mD_any hDm, hnm⟩
  obtain ⟨a1, ha1, e1⟩ := l_zat hx
  exact hk x.1 ((hz0.1 k x hx).lt) (L_mnotA ((hz0.1 k x hx).lt) (fun h9 => (hnm x.1 h9).2 a1 ha1 e1))
/-- the law calls the reference -/
theorem L_mi {o : Int32 × MS} (X : CallFix p m c cc nL s args Ts RL) (hM : LH D y h ob cJ A0 s H locs I A S F) (hc : mMi l q ws rm (.ref (h 0) :: As) D (y 13) (y 14) h I A o) (hT : GoodIn Ts (wsV RL index RX12 q ws)) (hw : ws = Cond.code q bytes maxL ret :: ws') (hrm : rm.cells = 0 ∧ rm.slots = 0) (hcs : cells ≤ R.cells ∧ slots ≤ R.slots)
    (hd : q.cls = RX12 ∧ q.cls ≠ "java/lang/invoke/MethodHandle" ∧ q.cls ≠ "java/lang/invoke/VarHandle" ∧ (parseMethodDescriptor q.desc).map (fun d => d.parameters.length) = some n) (hR : rm.frames + 1 ≤ R.frames ∧ 8 + (maxL + 11) + rm.locals ≤ R.locals) (hn : As.length = n) (hls : ls.size = nL) (hst : st = As.reverse ++ .ref (h 0) :: rest) (hrest : (rest.map fun v => v.category).sum ≤ 8) (hdg : decode cc pc = .ok (.invokevirtual index, 3))
    (kk : ∀ (H : Heap) (locs : List Loc), LH D y h ob cJ A0 s H locs o.2.1 o.2.2 S F → W p l e R s m args below meth c H locs cells slots Q (F0 m (pc + 3) ls (.int o.1 :: rest))) : W p l e R s m args below meth c H locs cells slots Q (F0 m pc ls st) := by
  subst hst
  have hmH : mH D (y 13) (y 14) h A0 s H locs I A := ⟨hM.2.1, hM.2.2.1, hM.1.1.2.2.1, l_K hM.1.1.2.2.2.1, hM.1.1.2.2.2.2.1⟩
  have hF := m_free hmH
  refine z_tight hM.1.1.2.2.1.1 (fun c9 h8 h9 => ?_)
  refine va_calli (va_runV (C := RX12) (As := As) (rest := rest) X (hc H.size) (cwV n X.2.2.2.2 hT hw hrm.1 hrm.2 hd hR) (m_preV hmH) rfl hn hls rfl (lv_room hrest) hdg ⟨Nat.le_trans h9 hcs.1, hcs.2⟩) hM.1.1.2.2.1 (fun q _ hq => hF q hq) hF (fun r u t H1 locs1 ht hvm hw1 hB hz1 hk1 hS => ?_)
  refine z_loose (c9 := c9) h9 (fun h7 => ?_)
  have hz9 : H1.size = H.size := Nat.le_antisymm (h8 ▸ h7) hz1
  have hB' : va_P D vwCl (mW (y 13) (y 14) h o.2.1 o.2.2) t.heap := hB
  rw [ht] at hB'
  have hw2 : r = o.1 := hw1
  subst hw2
  exact kk H1 locs1 (L_mpost hM hB' hz9 hk1 hS)
theorem L_mv {o : Int32 × MS} (X : CallFix p m c cc nL s args Ts RL) (hM : LH D y h ob cJ A0 s H locs I A S F) (hc : mMv l q ws rm (.ref (h 0) :: As) D (y 13) (y 14) h I A o) (hT : GoodIn Ts (wsV RL index RX12 q ws)) (hw : ws = Cond.code q bytes maxL ret :: ws') (hrm : rm.cells = 0 ∧ rm.slots = 0) (hcs : cells ≤ R.cells ∧ slots ≤ R.slots)
    (hd : q.cls = RX12 ∧ q.cls ≠ "java/lang/invoke/MethodHandle" ∧ q.cls ≠ "java/lang/invoke/VarHandle" ∧ (parseMethodDescriptor q.desc).map (fun d => d.parameters.length) = some n) (hR : rm.frames + 1 ≤ R.frames ∧ 8 + (maxL + 11) + rm.locals ≤ R.locals) (hn : As.length = n) (hls : ls.size = nL) (hst : st = As.reverse ++ .ref (h 0) :: rest) (hrest : (rest.map fun v => v.category).sum ≤ 8) (hdg : decode cc pc = .ok (.invokevirtual index, 3))
    (kk : ∀ (H : Heap) (locs : List Loc), LH D y h ob cJ A0 s H locs o.2.1 o.2.2 S F → W p l e R s m args below meth c H locs cells slots Q (F0 m (pc + 3) ls rest)) : W p l e R s m args below meth c H locs cells slots Q (F0 m pc ls st) := by
  subst hst
  have hmH : mH D (y 13) (y 14) h A0 s H locs I A := ⟨hM.2.1, hM.2.2.1, hM.1.1.2.2.1, l_K hM.1.1.2.2.2.1, hM.1.1.2.2.2.2.1⟩
  have hF := m_free hmH
  refine z_tight hM.1.1.2.2.1.1 (fun c9 h8 h9 => ?_)
  refine va_callv (va_runV (C := RX12) (As := As) (rest := rest) X (hc H.size) (cwV n X.2.2.2.2 hT hw hrm.1 hrm.2 hd hR) (m_preV hmH) rfl hn hls rfl (lv_room hrest) hdg ⟨Nat.le_trans h9 hcs.1, hcs.2⟩) hM.1.1.2.2.1 (fun q _ hq => hF q hq) hF (fun u t H1 locs1 ht hvm hw1 hB hz1 hk1 hS => ?_)
  refine z_loose (c9 := c9) h9 (fun h7 => ?_)
  have hz9 : H1.size = H.size := Nat.le_antisymm (h8 ▸ h7) hz1
  have hB' : va_P D vwCl (mW (y 13) (y 14) h o.2.1 o.2.2) t.heap := hB
  rw [ht] at hB'
  exact kk H1 locs1 (L_mpost hM hB' hz9 hk1 hS)
theorem L_oF (hM : LH0 D y ob cJ A0 s H locs S F) : ∀ q, va_A (oW y S ob cJ F) H.size q → A0 q := by
  rintro q (⟨k, e1, hk⟩ | hq)
  · by_cases hl : k < (zW y S).length
    · rw [List.getElem?_append_left hl] at hk
      exact z_free hM.1 q (Or.inl ⟨k, e1, hk⟩)
    · rw [List.getElem?_append_right (Nat.not_lt.mp hl)] at hk
      have h1 : k - (zW y S).length < 1 := (List.getElem?_eq_some_iff.mp hk).1
      rw [show k - (zW y S).length = 0 by omega] at hk
      cases hk
      exact hM.2.2.1.1
  · exact z_free hM.1 q (Or.inr hq)
theorem L_oD (hM : LH0 D y ob cJ A0 s H locs S F) : va_D A0 (oW y S ob cJ F) := ld_a hM.1.2.1 hM.2.2.1.1 (fun k z hk => by
  obtain ⟨a, ha, e1⟩ := l_zat hk
  rw [← e1]; exact hM.2.2.2.1 a ha)
theorem L_preS (hM : LH0 D y ob cJ A0 s H locs S F) (hN : va_Nc (xN 3) (xN 1) s ∧ va_Nc (xN 4) (xN 1) s) : PreS s H (va_Pc As (LB D y ob cJ S F H.size)) As := by
  have hF := L_oF hM
  have hD := L_oD hM
  obtain ⟨⟨hP, -, hS, hK, hA, hE, hG⟩, hPo, ⟨hob, hKJ⟩, hne, hX⟩ := hM
  refine ⟨fun a1 U g mk z => ?_, fun U hU hW => ⟨rfl, by rw [hU], by rw [hU]; exact hP.app hPo, va_K.moved hW.alike hK, va_K.moved hW.alike hKJ, hD.weaken (fun _ _ _ _ => trivial), zE_call hE hS hF hU hW, hG, zX_call hX hS hF hU hW, va_Nc.moved hW.alike hN.1, va_Nc.moved hW.alike hN.2⟩⟩
  obtain ⟨q0, q1, q2, q3, q4, q5, q6, q7, q8, q9, q10⟩ := z
  have hr : U.vm.Alike (U.calling g mk a1).vm := Vm.Alike.refl U.vm
  exact ⟨q0, q1, q2, va_K.moved (u := U) (U := U.calling g mk a1) hr q3, va_K.moved (u := U) (U := U.calling g mk a1) hr q4, q5, zE_blind q6, q7, zX_blind q8, va_Nc.moved hr q9, va_Nc.moved hr q10⟩
/-- the law calls one of its catchers -/
theorem L_si {hh : List (Nat × Nat × Nat × Nat)} {Pl : Int32 → (Nat → Int64) → ZS → Prop} (X : CallFix p m c cc nL s args Ts RL) (hM : LH D y h ob cJ A0 s H locs I A S F) (hN : va_Nc (xN 3) (xN 1) s ∧ va_Nc (xN 4) (xN 1) s) (hc : LMi l q ws rm As D y ob cJ S F mc ms Pl) (hT : GoodIn Ts (va_wsS RL index q ws)) (hw : ws = Cond.codeWith q bytes maxL ret hh :: ws') (hrm : rm.cells = mc ∧ rm.slots = ms) (hcs : cells + mc ≤ R.cells ∧ slots + ms ≤ R.slots)
    (hd : q.cls ≠ "java/lang/invoke/MethodHandle" ∧ q.cls ≠ "java/lang/invoke/VarHandle" ∧ (parseMethodDescriptor q.desc).map (fun d => d.parameters.length) = some n) (hR : rm.frames + 1 ≤ R.frames ∧ 8 + (maxL + 11) + rm.locals ≤ R.locals) (hn : As.length = n) (hls : ls.size = nL) (hst : st = As.reverse ++ rest) (hrest : (rest.map fun v => v.category).sum ≤ 8) (hdg : decode cc pc = .ok (.invokestatic index, 3))
    (kk : ∀ (r : Int32) (F1 : Nat → Int64) (S1 : ZS) (H : Heap) (locs : List Loc), Pl r F1 S1 → LH D y h ob cJ A0 s H locs I A S1 F1 → W p l e R s m args below meth c H locs (cells + mc) (slots + ms) Q (F0 m (pc + 3) ls (.int r :: rest))) : W p l e R s m args below meth c H locs cells slots Q (F0 m pc ls st) := by
  subst hst
  have hF := L_oF hM.1
  refine va_calli (vx_runSW (As := As) (rest := rest) X (hc H.size) (vx_cwSW n X.2.2.2.2 hT hw hrm.1 hrm.2 hd hR) (L_preS hM.1 hN) rfl hn hls rfl (lv_room hrest) hdg hcs) hM.1.1.2.2.1 (fun q _ hq => hF q hq) hF (fun r u t H1 locs1 ht hvm hp hB hz1 hk1 hS => ?_)
  obtain ⟨hP1, hD1, hG1⟩ := hB
  rw [ht] at hP1 hG1
  obtain ⟨⟨hz0, hPo, hob, hne, hX⟩, hPm, hDm, hnm⟩ := hM
  have hnA : ∀ q ∈ mAd h, ¬ va_A (oW y S ob cJ F) H.size q := by
    rintro q hq (⟨k, e1, hk⟩ | h1)
    · by_cases hl : k < (zW y S).length
      · rw [List.getElem?_append_left hl] at hk
        obtain ⟨a1, ha1, e2⟩ := l_zat hk
        exact (hnm q hq).2 a1 ha1 e2
      · rw [List.getElem?_append_right (Nat.not_lt.mp hl)] at hk
        have h1 : k - (zW y S).length < 1 := (List.getElem?_eq_some_iff.mp hk).1
        rw [show k - (zW y S).length = 0 by omega] at hk
        cases hk
        exact (hnm _ hq).1 rfl
    · exact absurd (L_mlt hPm hq) (Nat.not_lt.mpr h1)
  have hD2 : va_D A0 (oW y u.2 ob cJ u.1) := hD1.weaken (fun _ q _ h9 => hF q.1 h9)
  refine kk r u.1 u.2 H1 locs1 hp ⟨⟨⟨lp_l hP1, ⟨fun i j a b hi hj e1 => hD2.1 i j a b (by rw [List.getElem?_append_left (List.getElem?_eq_some_iff.mp hi).1]; exact hi) (by rw [List.getElem?_append_left (List.getElem?_eq_some_iff.mp hj).1]; exact hj) e1, fun k q hk => hD2.2 k q (by rw [List.getElem?_append_left (List.getElem?_eq_some_iff.mp hk).1]; exact hk)⟩, hS, hz0.2.2.2.1, hz0.2.2.2.2.1, hz0.2.2.2.2.2.1, hG1⟩, lp_r hP1, hob, L_ne hD2, hX⟩, L_mkeep hPm (fun q hq => hk1 q (L_mlt hPm hq) (hnA q hq)), hDm, fun q hq => ⟨(hnm q hq).1, fun a1 ha1 e1 => ?_⟩⟩
  obtain ⟨k, hk⟩ := zW_at (y := y) ha1
  have h1 := hD1.2 k (zh y a1, zF y u.2 a1) (by rw [List.getElem?_append_left (List.getElem?_eq_some_iff.mp hk).1]; exact hk)
  rw [show ((zh y a1, zF y u.2 a1) : Nat × va_E).1 = q from e1] at h1
  exact hnA q hq h1
/-- the law reads its script -/
theorem L_sld {b L : Nat} {xs : Nat → Int32} (X : CallFix p m c cc nL s args Ts RL) (hM : LH D y h ob cJ A0 s H locs I A S F) (hX : va_X b L xs s s.heap ∧ b < s.heap.size ∧ ¬ A0 b) {i v : Int32} (hs : vp_in i L ∧ xs i.toNatClampNeg = v) (hdg : decode cc pc = .ok (.iaload, 1))
    (kk : W p l e R s m args below meth c H locs cells slots Q (F0 m (pc + 1) ls (.int v :: rest))) : W p l e R s m args below meth c H locs cells slots Q (F0 m pc ls (.int i :: .ref b :: rest)) := by
  refine va_sld X.1 X.2.1 hX.1 hX.2.1 hX.2.2 hM.1.1.2.2.1 hs.1 hdg ?_
  rw [hs.2]
  exact kk
theorem L_lald (X : CallFix p m c cc nL s args Ts RL) (hM : LH D y h ob cJ A0 s H locs I A S F) (hdg : decode cc pc = .ok (.laload, 1))
    (kk : W p l e R s m args below meth c H locs cells slots Q (F0 m (pc + 1) ls (.long (F 0) :: rest))) : W p l e R s m args below meth c H locs cells slots Q (F0 m pc ls (.int 0 :: .ref ob :: rest)) :=
  va_lald (tys := [(cJ, .long)]) X.1 X.2.1 hM.1.2.2.1.2 hM.1.2.1 0 0 rfl rfl (by unfold vp_in; decide) hdg kk
end LC
