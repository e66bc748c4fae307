abbrev lKC : Nat := 10000
abbrev lKT : Nat := 140000
abbrev lw (a b : Int32) : Int64 := (a.toInt64 <<< ((32 : Int32).toInt64 &&& 63)) ||| (b.toInt64 &&& (4294967295 : Int64))
abbrev lb (a : Int32) : Int32 := if a = 0 then 0 else 1
theorem cl_L_law : Cond.constantLong RL 63 (4294967295) ∈ wsL_law := by decide +kernel
theorem lcmp_0 {x y : Int64} (h : x = y) : lg_cmp x y = 0 := by subst h; simp [lg_cmp]
/-- what a catcher's end must hold for the law to go on: k is what the reference says of its throw, v its answer -/
abbrev lPl (k : Int32) (v : Int64) (Nx : ZS → Prop) : Int32 → (Nat → Int64) → ZS → Prop := fun r F1 S1 => r = k ∧ (r = 0 → F1 0 = v) ∧ Nx S1
theorem hd_L_signs : yL_signs.cls ≠ "java/lang/invoke/MethodHandle" ∧ yL_signs.cls ≠ "java/lang/invoke/VarHandle" ∧ (parseMethodDescriptor yL_signs.desc).map (fun d => d.parameters.length) = some 3 := by decide +kernel
theorem hd_L_node : yL_node.cls ≠ "java/lang/invoke/MethodHandle" ∧ yL_node.cls ≠ "java/lang/invoke/VarHandle" ∧ (parseMethodDescriptor yL_node.desc).map (fun d => d.parameters.length) = some 4 := by decide +kernel
theorem hd_L_mark : yL_mark.cls ≠ "java/lang/invoke/MethodHandle" ∧ yL_mark.cls ≠ "java/lang/invoke/VarHandle" ∧ (parseMethodDescriptor yL_mark.desc).map (fun d => d.parameters.length) = some 4 := by decide +kernel
theorem hd_L_remark : yL_remark.cls ≠ "java/lang/invoke/MethodHandle" ∧ yL_remark.cls ≠ "java/lang/invoke/VarHandle" ∧ (parseMethodDescriptor yL_remark.desc).map (fun d => d.parameters.length) = some 4 := by decide +kernel
theorem hd_L_go : yL_go.cls ≠ "java/lang/invoke/MethodHandle" ∧ yL_go.cls ≠ "java/lang/invoke/VarHandle" ∧ (parseMethodDescriptor yL_go.desc).map (fun d => d.parameters.length) = some 2 := by decide +kernel
theorem hd_L_man : yL_man.cls ≠ "java/lang/invoke/MethodHandle" ∧ yL_man.cls ≠ "java/lang/invoke/VarHandle" ∧ (parseMethodDescriptor yL_man.desc).map (fun d => d.parameters.length) = some 3 := by decide +kernel
theorem hd_L_add : yL_add.cls ≠ "java/lang/invoke/MethodHandle" ∧ yL_add.cls ≠ "java/lang/invoke/VarHandle" ∧ (parseMethodDescriptor yL_add.desc).map (fun d => d.parameters.length) = some 3 := by decide +kernel
theorem hd_L_addMark : yL_addMark.cls ≠ "java/lang/invoke/MethodHandle" ∧ yL_addMark.cls ≠ "java/lang/invoke/VarHandle" ∧ (parseMethodDescriptor yL_addMark.desc).map (fun d => d.parameters.length) = some 3 := by decide +kernel
theorem hd_L_say : yL_say.cls ≠ "java/lang/invoke/MethodHandle" ∧ yL_say.cls ≠ "java/lang/invoke/VarHandle" ∧ (parseMethodDescriptor yL_say.desc).map (fun d => d.parameters.length) = some 2 := by decide +kernel
theorem hd_L_lead : yL_lead.cls ≠ "java/lang/invoke/MethodHandle" ∧ yL_lead.cls ≠ "java/lang/invoke/VarHandle" ∧ (parseMethodDescriptor yL_lead.desc).map (fun d => d.parameters.length) = some 2 := by decide +kernel
theorem hd_L_end : yL_end.cls ≠ "java/lang/invoke/MethodHandle" ∧ yL_end.cls ≠ "java/lang/invoke/VarHandle" ∧ (parseMethodDescriptor yL_end.desc).map (fun d => d.parameters.length) = some 2 := by decide +kernel
theorem hd_L_tag : yL_tag.cls ≠ "java/lang/invoke/MethodHandle" ∧ yL_tag.cls ≠ "java/lang/invoke/VarHandle" ∧ (parseMethodDescriptor yL_tag.desc).map (fun d => d.parameters.length) = some 5 := by decide +kernel
set_option maxRecDepth 100000 in
set_option maxHeartbeats 4000000 in
theorem lc_type {p : Program} {l : Launch} {e : Env} {s : State} {m : MethodId} {args : Array Value} {below : List Frame} {meth : Method} {c : Code} {H : Heap} {locs : List Loc} {cells slots : Nat} {Q : State → Prop} {ls : Array Slot} {D : va_G} {A0 : Nat → Prop} {y : Nat → ClassId} {S : ZS} {ob : Nat} {cJ : ClassId} {F : Nat → Int64} {h : Nat → Nat} {I : Nat → Int32} {A : Nat → Nat → Int32} {b L : Nat} {xs : Nat → Int32} {i v1 v2 v3 : Int32} {o2 : Int32 × MS} {Nx : ZS → Prop} (h2 : f_type (lw v1 v2) v3 I A = some o2) (hf : g_X11_type 1 (lw v1 v2) v3 S lKC lKT (fun r S1 => r = o2.1 ∧ Nx S1)) (hlt : l.stackTraces = false) (X : CallFix p m c cL_law 7 s args wsL_law RL) (hM : LH D y h ob cJ A0 s H locs I A S F) (hX : va_X b L xs s s.heap ∧ b < s.heap.size ∧ ¬ A0 b) (hN : va_Nc (xN 3) (xN 1) s ∧ va_Nc (xN 4) (xN 1) s) (ha : 1 ∈ zL S ∧ zK S 1 = 11) (hs : (vp_in (i + 1) L ∧ xs (i + 1).toNatClampNeg = v1) ∧ (vp_in (i + 2) L ∧ xs (i + 2).toNatClampNeg = v2) ∧ (vp_in (i + 3) L ∧ xs (i + 3).toNatClampNeg = v3)) (hl : lv_has ls 7 [(0, .ref b), (1, .ref (zh y 1)), (2, .ref (h 0)), (3, .ref ob), (4, .int i)]) (hcs : cells + lKC ≤ room_1.cells ∧ slots + lKT ≤ room_1.slots)
    (kk : ∀ (S1 : ZS) (H : Heap) (locs : List Loc) (ls : Array Slot) (F : Nat → Int64), Nx S1 → LH D y h ob cJ A0 s H locs o2.2.1 o2.2.2 S1 F → lv_has ls 7 [(0, .ref b), (1, .ref (zh y 1)), (2, .ref (h 0)), (3, .ref ob), (4, .int i)] → W p l e room_1 s m args below meth c H locs (cells + lKC) (slots + lKT) Q (F0 m 1070 ls [])) : W p l e room_1 s m args below meth c H locs cells slots Q (F0 m 144 ls []) := by
  obtain ⟨hx, hb, -, hown, hts⟩ := id X
  refine lv_aload_n hx hb dL_law_144 rfl (lv_at hl 1 rfl) ?_
  refine lv_aload_n hx hb dL_law_145 rfl (lv_at hl 0 rfl) ?_
  refine lv_iload hx hb dL_law_146 (lv_at hl 4 rfl) ?_
  refine lv_iconst (v := (1 : Int32)) hx hb dL_law_148 (by decide) ?_
  refine lv_iadd hx hb dL_law_149 ?_
  refine L_sld X hM hX hs.1 dL_law_150 ?_
  refine lv_i2l (v := v1.toInt64) hx hb dL_law_151 rfl ?_
  refine lv_bipush (v := (32 : Int32)) hx hb dL_law_152 (by decide) ?_
  refine lv_lshl (v := v1.toInt64 <<< ((32 : Int32).toInt64 &&& 63)) hx hb dL_law_154 rfl ?_
  refine lv_aload_n hx hb dL_law_155 rfl (lv_at hl 0 rfl) ?_
  refine lv_iload hx hb dL_law_156 (lv_at hl 4 rfl) ?_
  refine lv_iconst (v := (2 : Int32)) hx hb dL_law_158 (by decide) ?_
  refine lv_iadd hx hb dL_law_159 ?_
  refine L_sld X hM hX hs.2.1 dL_law_160 ?_
  refine lv_i2l (v := v2.toInt64) hx hb dL_law_161 rfl ?_
  refine lv_ldc2 (v := (4294967295 : Int64)) hx hb hown (hts _ cl_L_law) dL_law_162 ?_
  refine lv_land hx hb dL_law_165 ?_
  refine lv_lor hx hb dL_law_166 ?_
  refine lv_aload_n hx hb dL_law_167 rfl (lv_at hl 0 rfl) ?_
  refine lv_iload hx hb dL_law_168 (lv_at hl 4 rfl) ?_
  refine lv_iconst (v := (3 : Int32)) hx hb dL_law_170 (by decide) ?_
  refine lv_iadd hx hb dL_law_171 ?_
  refine L_sld X hM hX hs.2.2 dL_law_172 ?_
  refine L_cwi X hM ha (c_X11_type hf) gL_law_X11_type rfl ⟨rfl, rfl⟩ hcs hd_X11_type ⟨Nat.le_of_ble_eq_true rfl, Nat.le_of_ble_eq_true rfl⟩ rfl hl.1 rfl (Nat.le_of_ble_eq_true rfl) dL_law_173 (fun r S1 H locs hp hM => ?_)
  refine lv_aload_n hx hb dL_law_176 rfl (lv_at hl 2 rfl) ?_
  refine lv_aload_n hx hb dL_law_177 rfl (lv_at hl 0 rfl) ?_
  refine lv_iload hx hb dL_law_178 (lv_at hl 4 rfl) ?_
  refine lv_iconst (v := (1 : Int32)) hx hb dL_law_180 (by decide) ?_
  refine lv_iadd hx hb dL_law_181 ?_
  refine L_sld X hM hX hs.1 dL_law_182 ?_
  refine lv_i2l (v := v1.toInt64) hx hb dL_law_183 rfl ?_
  refine lv_bipush (v := (32 : Int32)) hx hb dL_law_184 (by decide) ?_
  refine lv_lshl (v := v1.toInt64 <<< ((32 : Int32).toInt64 &&& 63)) hx hb dL_law_186 rfl ?_
  refine lv_aload_n hx hb dL_law_187 rfl (lv_at hl 0 rfl) ?_
  refine lv_iload hx hb dL_law_188 (lv_at hl 4 rfl) ?_
  refine lv_iconst (v := (2 : Int32)) hx hb dL_law_190 (by decide) ?_
  refine lv_iadd hx hb dL_law_191 ?_
  refine L_sld X hM hX hs.2.1 dL_law_192 ?_
  refine lv_i2l (v := v2.toInt64) hx hb dL_law_193 rfl ?_
  refine lv_ldc2 (v := (4294967295 : Int64)) hx hb hown (hts _ cl_L_law) dL_law_194 ?_
  refine lv_land hx hb dL_law_197 ?_
  refine lv_lor hx hb dL_law_198 ?_
  refine lv_aload_n hx hb dL_law_199 rfl (lv_at hl 0 rfl) ?_
  refine lv_iload hx hb dL_law_200 (lv_at hl 4 rfl) ?_
  refine lv_iconst (v := (3 : Int32)) hx hb dL_law_202 (by decide) ?_
  refine lv_iadd hx hb dL_law_203 ?_
  refine L_sld X hM hX hs.2.2 dL_law_204 ?_
  refine L_mi X hM (c_type h2) gL_law_X12_type rfl ⟨rfl, rfl⟩ hcs hd_type ⟨Nat.le_of_ble_eq_true rfl, Nat.le_of_ble_eq_true rfl⟩ rfl hl.1 rfl (Nat.le_of_ble_eq_true rfl) dL_law_205 (fun H locs hM => ?_)
  refine lv_icmp_eq (tgt := 1070) hx hb dL_law_208 (by decide) (fun cc1 => ?_) (fun cc1 => ?_)
  rotate_left
  · exact absurd hp.1 cc1
  clear cc1
  exact kk _ H locs ls _ hp.2 hM (lv_sub hl [0, 1, 2, 3, 4] rfl)
set_option maxRecDepth 100000 in
set_option maxHeartbeats 4000000 in
theorem lc_cut {p : Program} {l : Launch} {e : Env} {s : State} {m : MethodId} {args : Array Value} {below : List Frame} {meth : Method} {c : Code} {H : Heap} {locs : List Loc} {cells slots : Nat} {Q : State → Prop} {ls : Array Slot} {D : va_G} {A0 : Nat → Prop} {y : Nat → ClassId} {S : ZS} {ob : Nat} {cJ : ClassId} {F : Nat → Int64} {h : Nat → Nat} {I : Nat → Int32} {A : Nat → Nat → Int32} {b L : Nat} {xs : Nat → Int32} {i v1 v2 v3 : Int32} {o1 : Int32 × ZS} {o2 : Int32 × MS} {Nx : ZS → Prop} (h2 : f_cut v1 I A = some o2) (hf : f_X11_cut 1 v1 S = some o1) (hr : o1.1 = o2.1 ∧ Nx o1.2) (hlt : l.stackTraces = false) (X : CallFix p m c cL_law 7 s args wsL_law RL) (hM : LH D y h ob cJ A0 s H locs I A S F) (hX : va_X b L xs s s.heap ∧ b < s.heap.size ∧ ¬ A0 b) (hN : va_Nc (xN 3) (xN 1) s ∧ va_Nc (xN 4) (xN 1) s) (ha : 1 ∈ zL S ∧ zK S 1 = 11) (hs : (vp_in (i + 1) L ∧ xs (i + 1).toNatClampNeg = v1) ∧ (vp_in (i + 2) L ∧ xs (i + 2).toNatClampNeg = v2) ∧ (vp_in (i + 3) L ∧ xs (i + 3).toNatClampNeg = v3)) (hl : lv_has ls 7 [(0, .ref b), (1, .ref (zh y 1)), (2, .ref (h 0)), (3, .ref ob), (4, .int i)]) (hcs : cells + lKC ≤ room_1.cells ∧ slots + lKT ≤ room_1.slots)
    (kk : ∀ (S1 : ZS) (H : Heap) (locs : List Loc) (ls : Array Slot) (F : Nat → Int64), Nx S1 → LH D y h ob cJ A0 s H locs o2.2.1 o2.2.2 S1 F → lv_has ls 7 [(0, .ref b), (1, .ref (zh y 1)), (2, .ref (h 0)), (3, .ref ob), (4, .int i)] → W p l e room_1 s m args below meth c H locs (cells + lKC) (slots + lKT) Q (F0 m 1070 ls [])) : W p l e room_1 s m args below meth c H locs cells slots Q (F0 m 213 ls []) := by
  obtain ⟨hx, hb, -, hown, hts⟩ := id X
  refine lv_aload_n hx hb dL_law_213 rfl (lv_at hl 1 rfl) ?_
  refine lv_aload_n hx hb dL_law_214 rfl (lv_at hl 0 rfl) ?_
  refine lv_iload hx hb dL_law_215 (lv_at hl 4 rfl) ?_
  refine lv_iconst (v := (1 : Int32)) hx hb dL_law_217 (by decide) ?_
  refine lv_iadd hx hb dL_law_218 ?_
  refine L_sld X hM hX hs.1 dL_law_219 ?_
  refine L_czi X hM ha (c_X11_cut hf) gL_law_X11_cut rfl ⟨rfl, rfl⟩ ⟨Nat.le_trans (Nat.le_add_right _ _) hcs.1, Nat.le_trans (Nat.le_add_right _ _) hcs.2⟩ hd_X11_cut ⟨Nat.le_of_ble_eq_true rfl, Nat.le_of_ble_eq_true rfl⟩ rfl hl.1 rfl (Nat.le_of_ble_eq_true rfl) dL_law_220 (fun H locs hM => ?_)
  refine lv_aload_n hx hb dL_law_223 rfl (lv_at hl 2 rfl) ?_
  refine lv_aload_n hx hb dL_law_224 rfl (lv_at hl 0 rfl) ?_
  refine lv_iload hx hb dL_law_225 (lv_at hl 4 rfl) ?_
  refine lv_iconst (v := (1 : Int32)) hx hb dL_law_227 (by decide) ?_
  refine lv_iadd hx hb dL_law_228 ?_
  refine L_sld X hM hX hs.1 dL_law_229 ?_
  refine L_mi X hM (c_cut h2) gL_law_X12_cut rfl ⟨rfl, rfl⟩ ⟨Nat.le_trans (Nat.le_add_right _ _) hcs.1, Nat.le_trans (Nat.le_add_right _ _) hcs.2⟩ hd_cut ⟨Nat.le_of_ble_eq_true rfl, Nat.le_of_ble_eq_true rfl⟩ rfl hl.1 rfl (Nat.le_of_ble_eq_true rfl) dL_law_230 (fun H locs hM => ?_)
  refine lv_icmp_eq (tgt := 1070) hx hb dL_law_233 (by decide) (fun cc1 => ?_) (fun cc1 => ?_)
  rotate_left
  · exact absurd hr.1 cc1
  clear cc1
  refine W.widen (k := cells + lKC) (n := slots + lKT) (Nat.le_add_right _ _) (Nat.le_add_right _ _) ?_
  exact kk _ H locs ls _ hr.2 hM (lv_sub hl [0, 1, 2, 3, 4] rfl)
set_option maxRecDepth 100000 in
set_option maxHeartbeats 4000000 in
theorem lc_read {p : Program} {l : Launch} {e : Env} {s : State} {m : MethodId} {args : Array Value} {below : List Frame} {meth : Method} {c : Code} {H : Heap} {locs : List Loc} {cells slots : Nat} {Q : State → Prop} {ls : Array Slot} {D : va_G} {A0 : Nat → Prop} {y : Nat → ClassId} {S : ZS} {ob : Nat} {cJ : ClassId} {F : Nat → Int64} {h : Nat → Nat} {I : Nat → Int32} {A : Nat → Nat → Int32} {b L : Nat} {xs : Nat → Int32} {i v1 v2 v3 : Int32} {o2 : Int32 × MS} {Nx : ZS → Prop} (h2 : f_read I A = some o2) (hf : g_X11_read 1 S lKC lKT (fun r S1 => r = o2.1 ∧ Nx S1)) (hlt : l.stackTraces = false) (X : CallFix p m c cL_law 7 s args wsL_law RL) (hM : LH D y h ob cJ A0 s H locs I A S F) (hX : va_X b L xs s s.heap ∧ b < s.heap.size ∧ ¬ A0 b) (hN : va_Nc (xN 3) (xN 1) s ∧ va_Nc (xN 4) (xN 1) s) (ha : 1 ∈ zL S ∧ zK S 1 = 11) (hs : (vp_in (i + 1) L ∧ xs (i + 1).toNatClampNeg = v1) ∧ (vp_in (i + 2) L ∧ xs (i + 2).toNatClampNeg = v2) ∧ (vp_in (i + 3) L ∧ xs (i + 3).toNatClampNeg = v3)) (hl : lv_has ls 7 [(0, .ref b), (1, .ref (zh y 1)), (2, .ref (h 0)), (3, .ref ob), (4, .int i)]) (hcs : cells + lKC ≤ room_1.cells ∧ slots + lKT ≤ room_1.slots)
    (kk : ∀ (S1 : ZS) (H : Heap) (locs : List Loc) (ls : Array Slot) (F : Nat → Int64), Nx S1 → LH D y h ob cJ A0 s H locs o2.2.1 o2.2.2 S1 F → lv_has ls 7 [(0, .ref b), (1, .ref (zh y 1)), (2, .ref (h 0)), (3, .ref ob), (4, .int i)] → W p l e room_1 s m args below meth c H locs (cells + lKC) (slots + lKT) Q (F0 m 1070 ls [])) : W p l e room_1 s m args below meth c H locs cells slots Q (F0 m 238 ls []) := by
  obtain ⟨hx, hb, -, hown, hts⟩ := id X
  refine lv_aload_n hx hb dL_law_238 rfl (lv_at hl 1 rfl) ?_
  refine L_cwi X hM ha (c_X11_read hf) gL_law_X11_read rfl ⟨rfl, rfl⟩ hcs hd_X11_read ⟨Nat.le_of_ble_eq_true rfl, Nat.le_of_ble_eq_true rfl⟩ rfl hl.1 rfl (Nat.le_of_ble_eq_true rfl) dL_law_239 (fun r S1 H locs hp hM => ?_)
  refine lv_aload_n hx hb dL_law_242 rfl (lv_at hl 2 rfl) ?_
  refine L_mi X hM (c_read h2) gL_law_X12_read rfl ⟨rfl, rfl⟩ hcs hd_read ⟨Nat.le_of_ble_eq_true rfl, Nat.le_of_ble_eq_true rfl⟩ rfl hl.1 rfl (Nat.le_of_ble_eq_true rfl) dL_law_243 (fun H locs hM => ?_)
  refine lv_icmp_eq (tgt := 1070) hx hb dL_law_246 (by decide) (fun cc1 => ?_) (fun cc1 => ?_)
  rotate_left
  · exact absurd hp.1 cc1
  clear cc1
  exact kk _ H locs ls _ hp.2 hM (lv_sub hl [0, 1, 2, 3, 4] rfl)
set_option maxRecDepth 100000 in
set_option maxHeartbeats 4000000 in
theorem lc_find {p : Program} {l : Launch} {e : Env} {s : State} {m : MethodId} {args : Array Value} {below : List Frame} {meth : Method} {c : Code} {H : Heap} {locs : List Loc} {cells slots : Nat} {Q : State → Prop} {ls : Array Slot} {D : va_G} {A0 : Nat → Prop} {y : Nat → ClassId} {S : ZS} {ob : Nat} {cJ : ClassId} {F : Nat → Int64} {h : Nat → Nat} {I : Nat → Int32} {A : Nat → Nat → Int32} {b L : Nat} {xs : Nat → Int32} {i v1 v2 v3 : Int32} {o2 : Int32 × MS} {Nx : ZS → Prop} (h2 : f_find I A = some o2) (hf : g_X11_find 1 S lKC lKT (fun r S1 => r = o2.1 ∧ Nx S1)) (hlt : l.stackTraces = false) (X : CallFix p m c cL_law 7 s args wsL_law RL) (hM : LH D y h ob cJ A0 s H locs I A S F) (hX : va_X b L xs s s.heap ∧ b < s.heap.size ∧ ¬ A0 b) (hN : va_Nc (xN 3) (xN 1) s ∧ va_Nc (xN 4) (xN 1) s) (ha : 1 ∈ zL S ∧ zK S 1 = 11) (hs : (vp_in (i + 1) L ∧ xs (i + 1).toNatClampNeg = v1) ∧ (vp_in (i + 2) L ∧ xs (i + 2).toNatClampNeg = v2) ∧ (vp_in (i + 3) L ∧ xs (i + 3).toNatClampNeg = v3)) (hl : lv_has ls 7 [(0, .ref b), (1, .ref (zh y 1)), (2, .ref (h 0)), (3, .ref ob), (4, .int i)]) (hcs : cells + lKC ≤ room_1.cells ∧ slots + lKT ≤ room_1.slots)
    (kk : ∀ (S1 : ZS) (H : Heap) (locs : List Loc) (ls : Array Slot) (F : Nat → Int64), Nx S1 → LH D y h ob cJ A0 s H locs o2.2.1 o2.2.2 S1 F → lv_has ls 7 [(0, .ref b), (1, .ref (zh y 1)), (2, .ref (h 0)), (3, .ref ob), (4, .int i)] → W p l e room_1 s m args below meth c H locs (cells + lKC) (slots + lKT) Q (F0 m 1070 ls [])) : W p l e room_1 s m args below meth c H locs cells slots Q (F0 m 251 ls []) := by
  obtain ⟨hx, hb, -, hown, hts⟩ := id X
  refine lv_aload_n hx hb dL_law_251 rfl (lv_at hl 1 rfl) ?_
  refine L_cwi X hM ha (c_X11_find hf) gL_law_X11_find rfl ⟨rfl, rfl⟩ hcs hd_X11_find ⟨Nat.le_of_ble_eq_true rfl, Nat.le_of_ble_eq_true rfl⟩ rfl hl.1 rfl (Nat.le_of_ble_eq_true rfl) dL_law_252 (fun r S1 H locs hp hM => ?_)
  refine lv_aload_n hx hb dL_law_255 rfl (lv_at hl 2 rfl) ?_
  refine L_mi X hM (c_find h2) gL_law_X12_find rfl ⟨rfl, rfl⟩ hcs hd_find ⟨Nat.le_of_ble_eq_true rfl, Nat.le_of_ble_eq_true rfl⟩ rfl hl.1 rfl (Nat.le_of_ble_eq_true rfl) dL_law_256 (fun H locs hM => ?_)
  refine lv_icmp_eq (tgt := 1070) hx hb dL_law_259 (by decide) (fun cc1 => ?_) (fun cc1 => ?_)
  rotate_left
  · exact absurd hp.1 cc1
  clear cc1
  exact kk _ H locs ls _ hp.2 hM (lv_sub hl [0, 1, 2, 3, 4] rfl)
set_option maxRecDepth 100000 in
set_option maxHeartbeats 4000000 in
theorem lc_write {p : Program} {l : Launch} {e : Env} {s : State} {m : MethodId} {args : Array Value} {below : List Frame} {meth : Method} {c : Code} {H : Heap} {locs : List Loc} {cells slots : Nat} {Q : State → Prop} {ls : Array Slot} {D : va_G} {A0 : Nat → Prop} {y : Nat → ClassId} {S : ZS} {ob : Nat} {cJ : ClassId} {F : Nat → Int64} {h : Nat → Nat} {I : Nat → Int32} {A : Nat → Nat → Int32} {b L : Nat} {xs : Nat → Int32} {i v1 v2 v3 : Int32} {o2 : Int32 × MS} {Nx : ZS → Prop} (h2 : f_write I A = some o2) (hf : g_X11_write 1 S lKC lKT (fun r S1 => r = o2.1 ∧ Nx S1)) (hlt : l.stackTraces = false) (X : CallFix p m c cL_law 7 s args wsL_law RL) (hM : LH D y h ob cJ A0 s H locs I A S F) (hX : va_X b L xs s s.heap ∧ b < s.heap.size ∧ ¬ A0 b) (hN : va_Nc (xN 3) (xN 1) s ∧ va_Nc (xN 4) (xN 1) s) (ha : 1 ∈ zL S ∧ zK S 1 = 11) (hs : (vp_in (i + 1) L ∧ xs (i + 1).toNatClampNeg = v1) ∧ (vp_in (i + 2) L ∧ xs (i + 2).toNatClampNeg = v2) ∧ (vp_in (i + 3) L ∧ xs (i + 3).toNatClampNeg = v3)) (hl : lv_has ls 7 [(0, .ref b), (1, .ref (zh y 1)), (2, .ref (h 0)), (3, .ref ob), (4, .int i)]) (hcs : cells + lKC ≤ room_1.cells ∧ slots + lKT ≤ room_1.slots)
    (kk : ∀ (S1 : ZS) (H : Heap) (locs : List Loc) (ls : Array Slot) (F : Nat → Int64), Nx S1 → LH D y h ob cJ A0 s H locs o2.2.1 o2.2.2 S1 F → lv_has ls 7 [(0, .ref b), (1, .ref (zh y 1)), (2, .ref (h 0)), (3, .ref ob), (4, .int i)] → W p l e room_1 s m args below meth c H locs (cells + lKC) (slots + lKT) Q (F0 m 1070 ls [])) : W p l e room_1 s m args below meth c H locs cells slots Q (F0 m 264 ls []) := by
  obtain ⟨hx, hb, -, hown, hts⟩ := id X
  refine lv_aload_n hx hb dL_law_264 rfl (lv_at hl 1 rfl) ?_
  refine L_cwi X hM ha (c_X11_write hf) gL_law_X11_write rfl ⟨rfl, rfl⟩ hcs hd_X11_write ⟨Nat.le_of_ble_eq_true rfl, Nat.le_of_ble_eq_true rfl⟩ rfl hl.1 rfl (Nat.le_of_ble_eq_true rfl) dL_law_265 (fun r S1 H locs hp hM => ?_)
  refine lv_aload_n hx hb dL_law_268 rfl (lv_at hl 2 rfl) ?_
  refine L_mi X hM (c_write h2) gL_law_X12_write rfl ⟨rfl, rfl⟩ hcs hd_write ⟨Nat.le_of_ble_eq_true rfl, Nat.le_of_ble_eq_true rfl⟩ rfl hl.1 rfl (Nat.le_of_ble_eq_true rfl) dL_law_269 (fun H locs hM => ?_)
  refine lv_icmp_eq (tgt := 1070) hx hb dL_law_272 (by decide) (fun cc1 => ?_) (fun cc1 => ?_)
  rotate_left
  · exact absurd hp.1 cc1
  clear cc1
  exact kk _ H locs ls _ hp.2 hM (lv_sub hl [0, 1, 2, 3, 4] rfl)
set_option maxRecDepth 100000 in
set_option maxHeartbeats 4000000 in
theorem lc_signs {p : Program} {l : Launch} {e : Env} {s : State} {m : MethodId} {args : Array Value} {below : List Frame} {meth : Method} {c : Code} {H : Heap} {locs : List Loc} {cells slots : Nat} {Q : State → Prop} {ls : Array Slot} {D : va_G} {A0 : Nat → Prop} {y : Nat → ClassId} {S : ZS} {ob : Nat} {cJ : ClassId} {F : Nat → Int64} {h : Nat → Nat} {I : Nat → Int32} {A : Nat → Nat → Int32} {b L : Nat} {xs : Nat → Int32} {i v1 v2 v3 : Int32} {o2 o3 : Int32 × MS} {Nx : ZS → Prop} (h2 : f_signs v1 I A = some o2) (h3 : f_thrown o2.2.1 o2.2.2 = some o3) (hf : ∀ F : Nat → Int64, g_X11_signs 1 v1 S lKC lKT (fun v S1 => ∀ F1 : Nat → Int64, F1 0 = v.toInt64 → (lPl o3.1 o2.1.toInt64 Nx) 0 F1 S1) (fun k S1 => (k = 1 ∧ (lPl o3.1 o2.1.toInt64 Nx) 1 F S1))) (hlt : l.stackTraces = false) (X : CallFix p m c cL_law 7 s args wsL_law RL) (hM : LH D y h ob cJ A0 s H locs I A S F) (hX : va_X b L xs s s.heap ∧ b < s.heap.size ∧ ¬ A0 b) (hN : va_Nc (xN 3) (xN 1) s ∧ va_Nc (xN 4) (xN 1) s) (ha : 1 ∈ zL S ∧ zK S 1 = 11) (hs : (vp_in (i + 1) L ∧ xs (i + 1).toNatClampNeg = v1) ∧ (vp_in (i + 2) L ∧ xs (i + 2).toNatClampNeg = v2) ∧ (vp_in (i + 3) L ∧ xs (i + 3).toNatClampNeg = v3)) (hl : lv_has ls 7 [(0, .ref b), (1, .ref (zh y 1)), (2, .ref (h 0)), (3, .ref ob), (4, .int i)]) (hcs : cells + lKC ≤ room_1.cells ∧ slots + lKT ≤ room_1.slots)
    (kk : ∀ (S1 : ZS) (H : Heap) (locs : List Loc) (ls : Array Slot) (F : Nat → Int64), Nx S1 → LH D y h ob cJ A0 s H locs o3.2.1 o3.2.2 S1 F → lv_has ls 7 [(0, .ref b), (1, .ref (zh y 1)), (2, .ref (h 0)), (3, .ref ob), (4, .int i)] → W p l e room_1 s m args below meth c H locs (cells + lKC) (slots + lKT) Q (F0 m 1070 ls [])) : W p l e room_1 s m args below meth c H locs cells slots Q (F0 m 277 ls []) := by
  obtain ⟨hx, hb, -, hown, hts⟩ := id X
  replace hf := hf F
  refine lv_aload_n hx hb dL_law_277 rfl (lv_at hl 1 rfl) ?_
  refine lv_aload_n hx hb dL_law_278 rfl (lv_at hl 0 rfl) ?_
  refine lv_iload hx hb dL_law_279 (lv_at hl 4 rfl) ?_
  refine lv_iconst (v := (1 : Int32)) hx hb dL_law_281 (by decide) ?_
  refine lv_iadd hx hb dL_law_282 ?_
  refine L_sld X hM hX hs.1 dL_law_283 ?_
  refine lv_aload_n hx hb dL_law_284 rfl (lv_at hl 3 rfl) ?_
  refine L_si X hM hN (c_L_signs hlt ha hf) gL_law_L_signs rfl ⟨rfl, rfl⟩ hcs hd_L_signs ⟨Nat.le_of_ble_eq_true rfl, Nat.le_of_ble_eq_true rfl⟩ rfl hl.1 rfl (Nat.le_of_ble_eq_true rfl) dL_law_285 (fun k F1 S1 H locs hp hM => ?_)
  refine lv_istore (lv' := [(5, .int k), (0, .ref b), (1, .ref (zh y 1)), (2, .ref (h 0)), (3, .ref ob), (4, .int i)]) hx hb dL_law_288 hl (by decide) rfl (fun ls hl => ?_)
  refine lv_aload_n hx hb dL_law_290 rfl (lv_at hl 3 rfl) ?_
  refine lv_aload_n hx hb dL_law_291 rfl (lv_at hl 1 rfl) ?_
  refine lv_iload hx hb dL_law_292 (lv_at hl 5 rfl) ?_
  refine lv_iconst (v := (1 : Int32)) hx hb dL_law_294 (by decide) ?_
  refine lv_iadd hx hb dL_law_295 ?_
  refine L_sld X hM hX hs.1 dL_law_296 ?_
  refine L_mi X hM (c_signs h2) gL_law_X12_signs rfl ⟨rfl, rfl⟩ hcs hd_signs ⟨Nat.le_of_ble_eq_true rfl, Nat.le_of_ble_eq_true rfl⟩ rfl hl.1 rfl (Nat.le_of_ble_eq_true rfl) dL_law_297 (fun H locs hM => ?_)
  refine lv_istore (lv' := [(6, .int o2.1), (5, .int k), (0, .ref b), (1, .ref (zh y 1)), (2, .ref (h 0)), (3, .ref ob), (4, .int i)]) hx hb dL_law_300 hl (by decide) rfl (fun ls hl => ?_)
  refine lv_aload_n hx hb dL_law_302 rfl (lv_at hl 4 rfl) ?_
  refine L_mi X hM (c_thrown h3) gL_law_X12_thrown rfl ⟨rfl, rfl⟩ hcs hd_thrown ⟨Nat.le_of_ble_eq_true rfl, Nat.le_of_ble_eq_true rfl⟩ rfl hl.1 rfl (Nat.le_of_ble_eq_true rfl) dL_law_303 (fun H locs hM => ?_)
  refine lv_iload hx hb dL_law_306 (lv_at hl 1 rfl) ?_
  refine lv_icmp_eq (tgt := 313) hx hb dL_law_308 (by decide) (fun cc1 => ?_) (fun cc1 => ?_)
  rotate_left
  · exact absurd hp.1.symm cc1
  clear cc1
  refine lv_iload hx hb dL_law_313 (lv_at hl 1 rfl) ?_
  refine lv_if_ne (tgt := 330) hx hb dL_law_315 (by decide) (fun cc1 => ?_) (fun cc1 => ?_)
  · skip
    refine lv_goto (tgt := 1070) hx hb dL_law_330 (by decide) ?_
    exact kk _ H locs ls _ hp.2.2 hM (lv_sub hl [2, 3, 4, 5, 6] rfl)
  · skip
    refine lv_aload_n hx hb dL_law_318 rfl (lv_at hl 5 rfl) ?_
    refine lv_iconst (v := (0 : Int32)) hx hb dL_law_319 (by decide) ?_
    refine L_lald X hM dL_law_320 ?_
    refine lv_iload hx hb dL_law_321 (lv_at hl 0 rfl) ?_
    refine lv_i2l (v := o2.1.toInt64) hx hb dL_law_323 rfl ?_
    refine W.lcmp hx hb dL_law_324 ?_
    refine lv_if_eq (tgt := 330) hx hb dL_law_325 (by decide) (fun cc2 => ?_) (fun cc2 => ?_)
    rotate_left
    · exact absurd (lcmp_0 (hp.2.1 cc1)) cc2
    refine lv_goto (tgt := 1070) hx hb dL_law_330 (by decide) ?_
    exact kk _ H locs ls _ hp.2.2 hM (lv_sub hl [2, 3, 4, 5, 6] rfl)
set_option maxRecDepth 100000 in
set_option maxHeartbeats 4000000 in
theorem lc_out {p : Program} {l : Launch} {e : Env} {s : State} {m : MethodId} {args : Array Value} {below : List Frame} {meth : Method} {c : Code} {H : Heap} {locs : List Loc} {cells slots : Nat} {Q : State → Prop} {ls : Array Slot} {D : va_G} {A0 : Nat → Prop} {y : Nat → ClassId} {S : ZS} {ob : Nat} {cJ : ClassId} {F : Nat → Int64} {h : Nat → Nat} {I : Nat → Int32} {A : Nat → Nat → Int32} {b L : Nat} {xs : Nat → Int32} {i v1 v2 v3 : Int32} {o1 : Int32 × ZS} {o2 : Int32 × MS} {Nx : ZS → Prop} (h2 : f_out v1 I A = some o2) (hf : f_X11_out 1 v1 S = some o1) (hr : o1.1 = o2.1 ∧ Nx o1.2) (hlt : l.stackTraces = false) (X : CallFix p m c cL_law 7 s args wsL_law RL) (hM : LH D y h ob cJ A0 s H locs I A S F) (hX : va_X b L xs s s.heap ∧ b < s.heap.size ∧ ¬ A0 b) (hN : va_Nc (xN 3) (xN 1) s ∧ va_Nc (xN 4) (xN 1) s) (ha : 1 ∈ zL S ∧ zK S 1 = 11) (hs : (vp_in (i + 1) L ∧ xs (i + 1).toNatClampNeg = v1) ∧ (vp_in (i + 2) L ∧ xs (i + 2).toNatClampNeg = v2) ∧ (vp_in (i + 3) L ∧ xs (i + 3).toNatClampNeg = v3)) (hl : lv_has ls 7 [(0, .ref b), (1, .ref (zh y 1)), (2, .ref (h 0)), (3, .ref ob), (4, .int i)]) (hcs : cells + lKC ≤ room_1.cells ∧ slots + lKT ≤ room_1.slots)
    (kk : ∀ (S1 : ZS) (H : Heap) (locs : List Loc) (ls : Array Slot) (F : Nat → Int64), Nx S1 → LH D y h ob cJ A0 s H locs o2.2.1 o2.2.2 S1 F → lv_has ls 7 [(0, .ref b), (1, .ref (zh y 1)), (2, .ref (h 0)), (3, .ref ob), (4, .int i)] → W p l e room_1 s m args below meth c H locs (cells + lKC) (slots + lKT) Q (F0 m 1070 ls [])) : W p l e room_1 s m args below meth c H locs cells slots Q (F0 m 333 ls []) := by
  obtain ⟨hx, hb, -, hown, hts⟩ := id X
  refine lv_aload_n hx hb dL_law_333 rfl (lv_at hl 1 rfl) ?_
  refine lv_aload_n hx hb dL_law_334 rfl (lv_at hl 0 rfl) ?_
  refine lv_iload hx hb dL_law_335 (lv_at hl 4 rfl) ?_
  refine lv_iconst (v := (1 : Int32)) hx hb dL_law_337 (by decide) ?_
  refine lv_iadd hx hb dL_law_338 ?_
  refine L_sld X hM hX hs.1 dL_law_339 ?_
  refine L_czi X hM ha (c_X11_out hf) gL_law_X11_out rfl ⟨rfl, rfl⟩ ⟨Nat.le_trans (Nat.le_add_right _ _) hcs.1, Nat.le_trans (Nat.le_add_right _ _) hcs.2⟩ hd_X11_out ⟨Nat.le_of_ble_eq_true rfl, Nat.le_of_ble_eq_true rfl⟩ rfl hl.1 rfl (Nat.le_of_ble_eq_true rfl) dL_law_340 (fun H locs hM => ?_)
  refine lv_aload_n hx hb dL_law_343 rfl (lv_at hl 2 rfl) ?_
  refine lv_aload_n hx hb dL_law_344 rfl (lv_at hl 0 rfl) ?_
  refine lv_iload hx hb dL_law_345 (lv_at hl 4 rfl) ?_
  refine lv_iconst (v := (1 : Int32)) hx hb dL_law_347 (by decide) ?_
  refine lv_iadd hx hb dL_law_348 ?_
  refine L_sld X hM hX hs.1 dL_law_349 ?_
  refine L_mi X hM (c_out h2) gL_law_X12_out rfl ⟨rfl, rfl⟩ ⟨Nat.le_trans (Nat.le_add_right _ _) hcs.1, Nat.le_trans (Nat.le_add_right _ _) hcs.2⟩ hd_out ⟨Nat.le_of_ble_eq_true rfl, Nat.le_of_ble_eq_true rfl⟩ rfl hl.1 rfl (Nat.le_of_ble_eq_true rfl) dL_law_350 (fun H locs hM => ?_)
  refine lv_icmp_eq (tgt := 1070) hx hb dL_law_353 (by decide) (fun cc1 => ?_) (fun cc1 => ?_)
  rotate_left
  · exact absurd hr.1 cc1
  clear cc1
  refine W.widen (k := cells + lKC) (n := slots + lKT) (Nat.le_add_right _ _) (Nat.le_add_right _ _) ?_
  exact kk _ H locs ls _ hr.2 hM (lv_sub hl [0, 1, 2, 3, 4] rfl)
set_option maxRecDepth 100000 in
set_option maxHeartbeats 4000000 in
theorem lc_nodes {p : Program} {l : Launch} {e : Env} {s : State} {m : MethodId} {args : Array Value} {below : List Frame} {meth : Method} {c : Code} {H : Heap} {locs : List Loc} {cells slots : Nat} {Q : State → Prop} {ls : Array Slot} {D : va_G} {A0 : Nat → Prop} {y : Nat → ClassId} {S : ZS} {ob : Nat} {cJ : ClassId} {F : Nat → Int64} {h : Nat → Nat} {I : Nat → Int32} {A : Nat → Nat → Int32} {b L : Nat} {xs : Nat → Int32} {i v1 v2 v3 : Int32} {o1 : Int32 × ZS} {o2 : Int32 × MS} {Nx : ZS → Prop} (h2 : f_nodes I A = some o2) (hf : f_X11_nodes 1 S = some o1) (hr : o1.1 = o2.1 ∧ Nx o1.2) (hlt : l.stackTraces = false) (X : CallFix p m c cL_law 7 s args wsL_law RL) (hM : LH D y h ob cJ A0 s H locs I A S F) (hX : va_X b L xs s s.heap ∧ b < s.heap.size ∧ ¬ A0 b) (hN : va_Nc (xN 3) (xN 1) s ∧ va_Nc (xN 4) (xN 1) s) (ha : 1 ∈ zL S ∧ zK S 1 = 11) (hs : (vp_in (i + 1) L ∧ xs (i + 1).toNatClampNeg = v1) ∧ (vp_in (i + 2) L ∧ xs (i + 2).toNatClampNeg = v2) ∧ (vp_in (i + 3) L ∧ xs (i + 3).toNatClampNeg = v3)) (hl : lv_has ls 7 [(0, .ref b), (1, .ref (zh y 1)), (2, .ref (h 0)), (3, .ref ob), (4, .int i)]) (hcs : cells + lKC ≤ room_1.cells ∧ slots + lKT ≤ room_1.slots)
    (kk : ∀ (S1 : ZS) (H : Heap) (locs : List Loc) (ls : Array Slot) (F : Nat → Int64), Nx S1 → LH D y h ob cJ A0 s H locs o2.2.1 o2.2.2 S1 F → lv_has ls 7 [(0, .ref b), (1, .ref (zh y 1)), (2, .ref (h 0)), (3, .ref ob), (4, .int i)] → W p l e room_1 s m args below meth c H locs (cells + lKC) (slots + lKT) Q (F0 m 1070 ls [])) : W p l e room_1 s m args below meth c H locs cells slots Q (F0 m 358 ls []) := by
  obtain ⟨hx, hb, -, hown, hts⟩ := id X
  refine lv_aload_n hx hb dL_law_358 rfl (lv_at hl 1 rfl) ?_
  refine L_czi X hM ha (c_X11_nodes hf) gL_law_X11_nodes rfl ⟨rfl, rfl⟩ ⟨Nat.le_trans (Nat.le_add_right _ _) hcs.1, Nat.le_trans (Nat.le_add_right _ _) hcs.2⟩ hd_X11_nodes ⟨Nat.le_of_ble_eq_true rfl, Nat.le_of_ble_eq_true rfl⟩ rfl hl.1 rfl (Nat.le_of_ble_eq_true rfl) dL_law_359 (fun H locs hM => ?_)
  refine lv_aload_n hx hb dL_law_362 rfl (lv_at hl 2 rfl) ?_
  refine L_mi X hM (c_nodes h2) gL_law_X12_nodes rfl ⟨rfl, rfl⟩ ⟨Nat.le_trans (Nat.le_add_right _ _) hcs.1, Nat.le_trans (Nat.le_add_right _ _) hcs.2⟩ hd_nodes ⟨Nat.le_of_ble_eq_true rfl, Nat.le_of_ble_eq_true rfl⟩ rfl hl.1 rfl (Nat.le_of_ble_eq_true rfl) dL_law_363 (fun H locs hM => ?_)
  refine lv_icmp_eq (tgt := 1070) hx hb dL_law_366 (by decide) (fun cc1 => ?_) (fun cc1 => ?_)
  rotate_left
  · exact absurd hr.1 cc1
  clear cc1
  refine W.widen (k := cells + lKC) (n := slots + lKT) (Nat.le_add_right _ _) (Nat.le_add_right _ _) ?_
  exact kk _ H locs ls _ hr.2 hM (lv_sub hl [0, 1, 2, 3, 4] rfl)
set_option maxRecDepth 100000 in
set_option maxHeartbeats 4000000 in
theorem lc_node {p : Program} {l : Launch} {e : Env} {s : State} {m : MethodId} {args : Array Value} {below : List Frame} {meth : Method} {c : Code} {H : Heap} {locs : List Loc} {cells slots : Nat} {Q : State → Prop} {ls : Array Slot} {D : va_G} {A0 : Nat → Prop} {y : Nat → ClassId} {S : ZS} {ob : Nat} {cJ : ClassId} {F : Nat → Int64} {h : Nat → Nat} {I : Nat → Int32} {A : Nat → Nat → Int32} {b L : Nat} {xs : Nat → Int32} {i v1 v2 v3 : Int32} {o2 o3 : Int32 × MS} {Nx : ZS → Prop} (h2 : f_node v1 v2 I A = some o2) (h3 : f_thrown o2.2.1 o2.2.2 = some o3) (hf : ∀ F : Nat → Int64, g_X11_node 1 v1 v2 S lKC lKT (fun v S1 => ∀ F1 : Nat → Int64, F1 0 = v.toInt64 → (lPl o3.1 o2.1.toInt64 Nx) 0 F1 S1) (fun k S1 => (k = 2 ∧ (lPl o3.1 o2.1.toInt64 Nx) 1 F S1))) (hlt : l.stackTraces = false) (X : CallFix p m c cL_law 7 s args wsL_law RL) (hM : LH D y h ob cJ A0 s H locs I A S F) (hX : va_X b L xs s s.heap ∧ b < s.heap.size ∧ ¬ A0 b) (hN : va_Nc (xN 3) (xN 1) s ∧ va_Nc (xN 4) (xN 1) s) (ha : 1 ∈ zL S ∧ zK S 1 = 11) (hs : (vp_in (i + 1) L ∧ xs (i + 1).toNatClampNeg = v1) ∧ (vp_in (i + 2) L ∧ xs (i + 2).toNatClampNeg = v2) ∧ (vp_in (i + 3) L ∧ xs (i + 3).toNatClampNeg = v3)) (hl : lv_has ls 7 [(0, .ref b), (1, .ref (zh y 1)), (2, .ref (h 0)), (3, .ref ob), (4, .int i)]) (hcs : cells + lKC ≤ room_1.cells ∧ slots + lKT ≤ room_1.slots)
    (kk : ∀ (S1 : ZS) (H : Heap) (locs : List Loc) (ls : Array Slot) (F : Nat → Int64), Nx S1 → LH D y h ob cJ A0 s H locs o3.2.1 o3.2.2 S1 F → lv_has ls 7 [(0, .ref b), (1, .ref (zh y 1)), (2, .ref (h 0)), (3, .ref ob), (4, .int i)] → W p l e room_1 s m args below meth c H locs (cells + lKC) (slots + lKT) Q (F0 m 1070 ls [])) : W p l e room_1 s m args below meth c H locs cells slots Q (F0 m 371 ls []) := by
  obtain ⟨hx, hb, -, hown, hts⟩ := id X
  replace hf := hf F
  refine lv_aload_n hx hb dL_law_371 rfl (lv_at hl 1 rfl) ?_
  refine lv_aload_n hx hb dL_law_372 rfl (lv_at hl 0 rfl) ?_
  refine lv_iload hx hb dL_law_373 (lv_at hl 4 rfl) ?_
  refine lv_iconst (v := (1 : Int32)) hx hb dL_law_375 (by decide) ?_
  refine lv_iadd hx hb dL_law_376 ?_
  refine L_sld X hM hX hs.1 dL_law_377 ?_
  refine lv_aload_n hx hb dL_law_378 rfl (lv_at hl 0 rfl) ?_
  refine lv_iload hx hb dL_law_379 (lv_at hl 4 rfl) ?_
  refine lv_iconst (v := (2 : Int32)) hx hb dL_law_381 (by decide) ?_
  refine lv_iadd hx hb dL_law_382 ?_
  refine L_sld X hM hX hs.2.1 dL_law_383 ?_
  refine lv_aload_n hx hb dL_law_384 rfl (lv_at hl 3 rfl) ?_
  refine L_si X hM hN (c_L_node hlt ha hf) gL_law_L_node rfl ⟨rfl, rfl⟩ hcs hd_L_node ⟨Nat.le_of_ble_eq_true rfl, Nat.le_of_ble_eq_true rfl⟩ rfl hl.1 rfl (Nat.le_of_ble_eq_true rfl) dL_law_385 (fun k F1 S1 H locs hp hM => ?_)
  refine lv_istore (lv' := [(5, .int k), (0, .ref b), (1, .ref (zh y 1)), (2, .ref (h 0)), (3, .ref ob), (4, .int i)]) hx hb dL_law_388 hl (by decide) rfl (fun ls hl => ?_)
  refine lv_aload_n hx hb dL_law_390 rfl (lv_at hl 3 rfl) ?_
  refine lv_aload_n hx hb dL_law_391 rfl (lv_at hl 1 rfl) ?_
  refine lv_iload hx hb dL_law_392 (lv_at hl 5 rfl) ?_
  refine lv_iconst (v := (1 : Int32)) hx hb dL_law_394 (by decide) ?_
  refine lv_iadd hx hb dL_law_395 ?_
  refine L_sld X hM hX hs.1 dL_law_396 ?_
  refine lv_aload_n hx hb dL_law_397 rfl (lv_at hl 1 rfl) ?_
  refine lv_iload hx hb dL_law_398 (lv_at hl 5 rfl) ?_
  refine lv_iconst (v := (2 : Int32)) hx hb dL_law_400 (by decide) ?_
  refine lv_iadd hx hb dL_law_401 ?_
  refine L_sld X hM hX hs.2.1 dL_law_402 ?_
  refine L_mi X hM (c_node h2) gL_law_X12_node rfl ⟨rfl, rfl⟩ hcs hd_node ⟨Nat.le_of_ble_eq_true rfl, Nat.le_of_ble_eq_true rfl⟩ rfl hl.1 rfl (Nat.le_of_ble_eq_true rfl) dL_law_403 (fun H locs hM => ?_)
  refine lv_istore (lv' := [(6, .int o2.1), (5, .int k), (0, .ref b), (1, .ref (zh y 1)), (2, .ref (h 0)), (3, .ref ob), (4, .int i)]) hx hb dL_law_406 hl (by decide) rfl (fun ls hl => ?_)
  refine lv_aload_n hx hb dL_law_408 rfl (lv_at hl 4 rfl) ?_
  refine L_mi X hM (c_thrown h3) gL_law_X12_thrown rfl ⟨rfl, rfl⟩ hcs hd_thrown ⟨Nat.le_of_ble_eq_true rfl, Nat.le_of_ble_eq_true rfl⟩ rfl hl.1 rfl (Nat.le_of_ble_eq_true rfl) dL_law_409 (fun H locs hM => ?_)
  refine lv_iload hx hb dL_law_412 (lv_at hl 1 rfl) ?_
  refine lv_icmp_eq (tgt := 419) hx hb dL_law_414 (by decide) (fun cc1 => ?_) (fun cc1 => ?_)
  rotate_left
  · exact absurd hp.1.symm cc1
  clear cc1
  refine lv_iload hx hb dL_law_419 (lv_at hl 1 rfl) ?_
  refine lv_if_ne (tgt := 436) hx hb dL_law_421 (by decide) (fun cc1 => ?_) (fun cc1 => ?_)
  · skip
    refine lv_goto (tgt := 1070) hx hb dL_law_436 (by decide) ?_
    exact kk _ H locs ls _ hp.2.2 hM (lv_sub hl [2, 3, 4, 5, 6] rfl)
  · skip
    refine lv_aload_n hx hb dL_law_424 rfl (lv_at hl 5 rfl) ?_
    refine lv_iconst (v := (0 : Int32)) hx hb dL_law_425 (by decide) ?_
    refine L_lald X hM dL_law_426 ?_
    refine lv_iload hx hb dL_law_427 (lv_at hl 0 rfl) ?_
    refine lv_i2l (v := o2.1.toInt64) hx hb dL_law_429 rfl ?_
    refine W.lcmp hx hb dL_law_430 ?_
    refine lv_if_eq (tgt := 436) hx hb dL_law_431 (by decide) (fun cc2 => ?_) (fun cc2 => ?_)
    rotate_left
    · exact absurd (lcmp_0 (hp.2.1 cc1)) cc2
    refine lv_goto (tgt := 1070) hx hb dL_law_436 (by decide) ?_
    exact kk _ H locs ls _ hp.2.2 hM (lv_sub hl [2, 3, 4, 5, 6] rfl)
set_option maxRecDepth 100000 in
set_option maxHeartbeats 4000000 in
theorem lc_mark {p : Program} {l : Launch} {e : Env} {s : State} {m : MethodId} {args : Array Value} {below : List Frame} {meth : Method} {c : Code} {H : Heap} {locs : List Loc} {cells slots : Nat} {Q : State → Prop} {ls : Array Slot} {D : va_G} {A0 : Nat → Prop} {y : Nat → ClassId} {S : ZS} {ob : Nat} {cJ : ClassId} {F : Nat → Int64} {h : Nat → Nat} {I : Nat → Int32} {A : Nat → Nat → Int32} {b L : Nat} {xs : Nat → Int32} {i v1 v2 v3 : Int32} {o2 o3 : Int32 × MS} {Nx : ZS → Prop} (h2 : f_mark v1 v2 I A = some o2) (h3 : f_thrown o2.2.1 o2.2.2 = some o3) (hf : ∀ F : Nat → Int64, g_X11_mark 1 v1 v2 S lKC lKT (fun v S1 => ∀ F1 : Nat → Int64, F1 0 = v.toInt64 → (lPl o3.1 o2.1.toInt64 Nx) 0 F1 S1) (fun k S1 => (k = 2 ∧ (lPl o3.1 o2.1.toInt64 Nx) 1 F S1))) (hlt : l.stackTraces = false) (X : CallFix p m c cL_law 7 s args wsL_law RL) (hM : LH D y h ob cJ A0 s H locs I A S F) (hX : va_X b L xs s s.heap ∧ b < s.heap.size ∧ ¬ A0 b) (hN : va_Nc (xN 3) (xN 1) s ∧ va_Nc (xN 4) (xN 1) s) (ha : 1 ∈ zL S ∧ zK S 1 = 11) (hs : (vp_in (i + 1) L ∧ xs (i + 1).toNatClampNeg = v1) ∧ (vp_in (i + 2) L ∧ xs (i + 2).toNatClampNeg = v2) ∧ (vp_in (i + 3) L ∧ xs (i + 3).toNatClampNeg = v3)) (hl : lv_has ls 7 [(0, .ref b), (1, .ref (zh y 1)), (2, .ref (h 0)), (3, .ref ob), (4, .int i)]) (hcs : cells + lKC ≤ room_1.cells ∧ slots + lKT ≤ room_1.slots)
    (kk : ∀ (S1 : ZS) (H : Heap) (locs : List Loc) (ls : Array Slot) (F : Nat → Int64), Nx S1 → LH D y h ob cJ A0 s H locs o3.2.1 o3.2.2 S1 F → lv_has ls 7 [(0, .ref b), (1, .ref (zh y 1)), (2, .ref (h 0)), (3, .ref ob), (4, .int i)] → W p l e room_1 s m args below meth c H locs (cells + lKC) (slots + lKT) Q (F0 m 1070 ls [])) : W p l e room_1 s m args below meth c H locs cells slots Q (F0 m 439 ls []) := by
  obtain ⟨hx, hb, -, hown, hts⟩ := id X
  replace hf := hf F
  refine lv_aload_n hx hb dL_law_439 rfl (lv_at hl 1 rfl) ?_
  refine lv_aload_n hx hb dL_law_440 rfl (lv_at hl 0 rfl) ?_
  refine lv_iload hx hb dL_law_441 (lv_at hl 4 rfl) ?_
  refine lv_iconst (v := (1 : Int32)) hx hb dL_law_443 (by decide) ?_
  refine lv_iadd hx hb dL_law_444 ?_
  refine L_sld X hM hX hs.1 dL_law_445 ?_
  refine lv_aload_n hx hb dL_law_446 rfl (lv_at hl 0 rfl) ?_
  refine lv_iload hx hb dL_law_447 (lv_at hl 4 rfl) ?_
  refine lv_iconst (v := (2 : Int32)) hx hb dL_law_449 (by decide) ?_
  refine lv_iadd hx hb dL_law_450 ?_
  refine L_sld X hM hX hs.2.1 dL_law_451 ?_
  refine lv_aload_n hx hb dL_law_452 rfl (lv_at hl 3 rfl) ?_
  refine L_si X hM hN (c_L_mark hlt ha hf) gL_law_L_mark rfl ⟨rfl, rfl⟩ hcs hd_L_mark ⟨Nat.le_of_ble_eq_true rfl, Nat.le_of_ble_eq_true rfl⟩ rfl hl.1 rfl (Nat.le_of_ble_eq_true rfl) dL_law_453 (fun k F1 S1 H locs hp hM => ?_)
  refine lv_istore (lv' := [(5, .int k), (0, .ref b), (1, .ref (zh y 1)), (2, .ref (h 0)), (3, .ref ob), (4, .int i)]) hx hb dL_law_456 hl (by decide) rfl (fun ls hl => ?_)
  refine lv_aload_n hx hb dL_law_458 rfl (lv_at hl 3 rfl) ?_
  refine lv_aload_n hx hb dL_law_459 rfl (lv_at hl 1 rfl) ?_
  refine lv_iload hx hb dL_law_460 (lv_at hl 5 rfl) ?_
  refine lv_iconst (v := (1 : Int32)) hx hb dL_law_462 (by decide) ?_
  refine lv_iadd hx hb dL_law_463 ?_
  refine L_sld X hM hX hs.1 dL_law_464 ?_
  refine lv_aload_n hx hb dL_law_465 rfl (lv_at hl 1 rfl) ?_
  refine lv_iload hx hb dL_law_466 (lv_at hl 5 rfl) ?_
  refine lv_iconst (v := (2 : Int32)) hx hb dL_law_468 (by decide) ?_
  refine lv_iadd hx hb dL_law_469 ?_
  refine L_sld X hM hX hs.2.1 dL_law_470 ?_
  refine L_mi X hM (c_mark h2) gL_law_X12_mark rfl ⟨rfl, rfl⟩ hcs hd_mark ⟨Nat.le_of_ble_eq_true rfl, Nat.le_of_ble_eq_true rfl⟩ rfl hl.1 rfl (Nat.le_of_ble_eq_true rfl) dL_law_471 (fun H locs hM => ?_)
  refine lv_istore (lv' := [(6, .int o2.1), (5, .int k), (0, .ref b), (1, .ref (zh y 1)), (2, .ref (h 0)), (3, .ref ob), (4, .int i)]) hx hb dL_law_474 hl (by decide) rfl (fun ls hl => ?_)
  refine lv_aload_n hx hb dL_law_476 rfl (lv_at hl 4 rfl) ?_
  refine L_mi X hM (c_thrown h3) gL_law_X12_thrown rfl ⟨rfl, rfl⟩ hcs hd_thrown ⟨Nat.le_of_ble_eq_true rfl, Nat.le_of_ble_eq_true rfl⟩ rfl hl.1 rfl (Nat.le_of_ble_eq_true rfl) dL_law_477 (fun H locs hM => ?_)
  refine lv_iload hx hb dL_law_480 (lv_at hl 1 rfl) ?_
  refine lv_icmp_eq (tgt := 487) hx hb dL_law_482 (by decide) (fun cc1 => ?_) (fun cc1 => ?_)
  rotate_left
  · exact absurd hp.1.symm cc1
  clear cc1
  refine lv_iload hx hb dL_law_487 (lv_at hl 1 rfl) ?_
  refine lv_if_ne (tgt := 504) hx hb dL_law_489 (by decide) (fun cc1 => ?_) (fun cc1 => ?_)
  · skip
    refine lv_goto (tgt := 1070) hx hb dL_law_504 (by decide) ?_
    exact kk _ H locs ls _ hp.2.2 hM (lv_sub hl [2, 3, 4, 5, 6] rfl)
  · skip
    refine lv_aload_n hx hb dL_law_492 rfl (lv_at hl 5 rfl) ?_
    refine lv_iconst (v := (0 : Int32)) hx hb dL_law_493 (by decide) ?_
    refine L_lald X hM dL_law_494 ?_
    refine lv_iload hx hb dL_law_495 (lv_at hl 0 rfl) ?_
    refine lv_i2l (v := o2.1.toInt64) hx hb dL_law_497 rfl ?_
    refine W.lcmp hx hb dL_law_498 ?_
    refine lv_if_eq (tgt := 504) hx hb dL_law_499 (by decide) (fun cc2 => ?_) (fun cc2 => ?_)
    rotate_left
    · exact absurd (lcmp_0 (hp.2.1 cc1)) cc2
    refine lv_goto (tgt := 1070) hx hb dL_law_504 (by decide) ?_
    exact kk _ H locs ls _ hp.2.2 hM (lv_sub hl [2, 3, 4, 5, 6] rfl)
set_option maxRecDepth 100000 in
set_option maxHeartbeats 4000000 in
theorem lc_remark {p : Program} {l : Launch} {e : Env} {s : State} {m : MethodId} {args : Array Value} {below : List Frame} {meth : Method} {c : Code} {H : Heap} {locs : List Loc} {cells slots : Nat} {Q : State → Prop} {ls : Array Slot} {D : va_G} {A0 : Nat → Prop} {y : Nat → ClassId} {S : ZS} {ob : Nat} {cJ : ClassId} {F : Nat → Int64} {h : Nat → Nat} {I : Nat → Int32} {A : Nat → Nat → Int32} {b L : Nat} {xs : Nat → Int32} {i v1 v2 v3 : Int32} {o2 o3 : Int32 × MS} {Nx : ZS → Prop} (h2 : f_remark v1 v2 I A = some o2) (h3 : f_thrown o2.2.1 o2.2.2 = some o3) (hf : ∀ F : Nat → Int64, g_X11_remark 1 v1 v2 S lKC lKT (fun v S1 => ∀ F1 : Nat → Int64, F1 0 = v.toInt64 → (lPl o3.1 o2.1.toInt64 Nx) 0 F1 S1) (fun k S1 => (k = 2 ∧ (lPl o3.1 o2.1.toInt64 Nx) 1 F S1))) (hlt : l.stackTraces = false) (X : CallFix p m c cL_law 7 s args wsL_law RL) (hM : LH D y h ob cJ A0 s H locs I A S F) (hX : va_X b L xs s s.heap ∧ b < s.heap.size ∧ ¬ A0 b) (hN : va_Nc (xN 3) (xN 1) s ∧ va_Nc (xN 4) (xN 1) s) (ha : 1 ∈ zL S ∧ zK S 1 = 11) (hs : (vp_in (i + 1) L ∧ xs (i + 1).toNatClampNeg = v1) ∧ (vp_in (i + 2) L ∧ xs (i + 2).toNatClampNeg = v2) ∧ (vp_in (i + 3) L ∧ xs (i + 3).toNatClampNeg = v3)) (hl : lv_has ls 7 [(0, .ref b), (1, .ref (zh y 1)), (2, .ref (h 0)), (3, .ref ob), (4, .int i)]) (hcs : cells + lKC ≤ room_1.cells ∧ slots + lKT ≤ room_1.slots)
    (kk : ∀ (S1 : ZS) (H : Heap) (locs : List Loc) (ls : Array Slot) (F : Nat → Int64), Nx S1 → LH D y h ob cJ A0 s H locs o3.2.1 o3.2.2 S1 F → lv_has ls 7 [(0, .ref b), (1, .ref (zh y 1)), (2, .ref (h 0)), (3, .ref ob), (4, .int i)] → W p l e room_1 s m args below meth c H locs (cells + lKC) (slots + lKT) Q (F0 m 1070 ls [])) : W p l e room_1 s m args below meth c H locs cells slots Q (F0 m 507 ls []) := by
  obtain ⟨hx, hb, -, hown, hts⟩ := id X
  replace hf := hf F
  refine lv_aload_n hx hb dL_law_507 rfl (lv_at hl 1 rfl) ?_
  refine lv_aload_n hx hb dL_law_508 rfl (lv_at hl 0 rfl) ?_
  refine lv_iload hx hb dL_law_509 (lv_at hl 4 rfl) ?_
  refine lv_iconst (v := (1 : Int32)) hx hb dL_law_511 (by decide) ?_
  refine lv_iadd hx hb dL_law_512 ?_
  refine L_sld X hM hX hs.1 dL_law_513 ?_
  refine lv_aload_n hx hb dL_law_514 rfl (lv_at hl 0 rfl) ?_
  refine lv_iload hx hb dL_law_515 (lv_at hl 4 rfl) ?_
  refine lv_iconst (v := (2 : Int32)) hx hb dL_law_517 (by decide) ?_
  refine lv_iadd hx hb dL_law_518 ?_
  refine L_sld X hM hX hs.2.1 dL_law_519 ?_
  refine lv_aload_n hx hb dL_law_520 rfl (lv_at hl 3 rfl) ?_
  refine L_si X hM hN (c_L_remark hlt ha hf) gL_law_L_remark rfl ⟨rfl, rfl⟩ hcs hd_L_remark ⟨Nat.le_of_ble_eq_true rfl, Nat.le_of_ble_eq_true rfl⟩ rfl hl.1 rfl (Nat.le_of_ble_eq_true rfl) dL_law_521 (fun k F1 S1 H locs hp hM => ?_)
  refine lv_istore (lv' := [(5, .int k), (0, .ref b), (1, .ref (zh y 1)), (2, .ref (h 0)), (3, .ref ob), (4, .int i)]) hx hb dL_law_524 hl (by decide) rfl (fun ls hl => ?_)
  refine lv_aload_n hx hb dL_law_526 rfl (lv_at hl 3 rfl) ?_
  refine lv_aload_n hx hb dL_law_527 rfl (lv_at hl 1 rfl) ?_
  refine lv_iload hx hb dL_law_528 (lv_at hl 5 rfl) ?_
  refine lv_iconst (v := (1 : Int32)) hx hb dL_law_530 (by decide) ?_
  refine lv_iadd hx hb dL_law_531 ?_
  refine L_sld X hM hX hs.1 dL_law_532 ?_
  refine lv_aload_n hx hb dL_law_533 rfl (lv_at hl 1 rfl) ?_
  refine lv_iload hx hb dL_law_534 (lv_at hl 5 rfl) ?_
  refine lv_iconst (v := (2 : Int32)) hx hb dL_law_536 (by decide) ?_
  refine lv_iadd hx hb dL_law_537 ?_
  refine L_sld X hM hX hs.2.1 dL_law_538 ?_
  refine L_mi X hM (c_remark h2) gL_law_X12_remark rfl ⟨rfl, rfl⟩ hcs hd_remark ⟨Nat.le_of_ble_eq_true rfl, Nat.le_of_ble_eq_true rfl⟩ rfl hl.1 rfl (Nat.le_of_ble_eq_true rfl) dL_law_539 (fun H locs hM => ?_)
  refine lv_istore (lv' := [(6, .int o2.1), (5, .int k), (0, .ref b), (1, .ref (zh y 1)), (2, .ref (h 0)), (3, .ref ob), (4, .int i)]) hx hb dL_law_542 hl (by decide) rfl (fun ls hl => ?_)
  refine lv_aload_n hx hb dL_law_544 rfl (lv_at hl 4 rfl) ?_
  refine L_mi X hM (c_thrown h3) gL_law_X12_thrown rfl ⟨rfl, rfl⟩ hcs hd_thrown ⟨Nat.le_of_ble_eq_true rfl, Nat.le_of_ble_eq_true rfl⟩ rfl hl.1 rfl (Nat.le_of_ble_eq_true rfl) dL_law_545 (fun H locs hM => ?_)
  refine lv_iload hx hb dL_law_548 (lv_at hl 1 rfl) ?_
  refine lv_icmp_eq (tgt := 555) hx hb dL_law_550 (by decide) (fun cc1 => ?_) (fun cc1 => ?_)
  rotate_left
  · exact absurd hp.1.symm cc1
  clear cc1
  refine lv_iload hx hb dL_law_555 (lv_at hl 1 rfl) ?_
  refine lv_if_ne (tgt := 572) hx hb dL_law_557 (by decide) (fun cc1 => ?_) (fun cc1 => ?_)
  · skip
    refine lv_goto (tgt := 1070) hx hb dL_law_572 (by decide) ?_
    exact kk _ H locs ls _ hp.2.2 hM (lv_sub hl [2, 3, 4, 5, 6] rfl)
  · skip
    refine lv_aload_n hx hb dL_law_560 rfl (lv_at hl 5 rfl) ?_
    refine lv_iconst (v := (0 : Int32)) hx hb dL_law_561 (by decide) ?_
    refine L_lald X hM dL_law_562 ?_
    refine lv_iload hx hb dL_law_563 (lv_at hl 0 rfl) ?_
    refine lv_i2l (v := o2.1.toInt64) hx hb dL_law_565 rfl ?_
    refine W.lcmp hx hb dL_law_566 ?_
    refine lv_if_eq (tgt := 572) hx hb dL_law_567 (by decide) (fun cc2 => ?_) (fun cc2 => ?_)
    rotate_left
    · exact absurd (lcmp_0 (hp.2.1 cc1)) cc2
    refine lv_goto (tgt := 1070) hx hb dL_law_572 (by decide) ?_
    exact kk _ H locs ls _ hp.2.2 hM (lv_sub hl [2, 3, 4, 5, 6] rfl)
set_option maxRecDepth 100000 in
set_option maxHeartbeats 4000000 in
theorem lc_here {p : Program} {l : Launch} {e : Env} {s : State} {m : MethodId} {args : Array Value} {below : List Frame} {meth : Method} {c : Code} {H : Heap} {locs : List Loc} {cells slots : Nat} {Q : State → Prop} {ls : Array Slot} {D : va_G} {A0 : Nat → Prop} {y : Nat → ClassId} {S : ZS} {ob : Nat} {cJ : ClassId} {F : Nat → Int64} {h : Nat → Nat} {I : Nat → Int32} {A : Nat → Nat → Int32} {b L : Nat} {xs : Nat → Int32} {i v1 v2 v3 : Int32} {o1 : Int32 × ZS} {o2 : Int32 × MS} {Nx : ZS → Prop} (h2 : f_here I A = some o2) (hf : f_X11_here 1 S = some o1) (hr : o1.1 = o2.1 ∧ Nx o1.2) (hlt : l.stackTraces = false) (X : CallFix p m c cL_law 7 s args wsL_law RL) (hM : LH D y h ob cJ A0 s H locs I A S F) (hX : va_X b L xs s s.heap ∧ b < s.heap.size ∧ ¬ A0 b) (hN : va_Nc (xN 3) (xN 1) s ∧ va_Nc (xN 4) (xN 1) s) (ha : 1 ∈ zL S ∧ zK S 1 = 11) (hs : (vp_in (i + 1) L ∧ xs (i + 1).toNatClampNeg = v1) ∧ (vp_in (i + 2) L ∧ xs (i + 2).toNatClampNeg = v2) ∧ (vp_in (i + 3) L ∧ xs (i + 3).toNatClampNeg = v3)) (hl : lv_has ls 7 [(0, .ref b), (1, .ref (zh y 1)), (2, .ref (h 0)), (3, .ref ob), (4, .int i)]) (hcs : cells + lKC ≤ room_1.cells ∧ slots + lKT ≤ room_1.slots)
    (kk : ∀ (S1 : ZS) (H : Heap) (locs : List Loc) (ls : Array Slot) (F : Nat → Int64), Nx S1 → LH D y h ob cJ A0 s H locs o2.2.1 o2.2.2 S1 F → lv_has ls 7 [(0, .ref b), (1, .ref (zh y 1)), (2, .ref (h 0)), (3, .ref ob), (4, .int i)] → W p l e room_1 s m args below meth c H locs (cells + lKC) (slots + lKT) Q (F0 m 1070 ls [])) : W p l e room_1 s m args below meth c H locs cells slots Q (F0 m 575 ls []) := by
  obtain ⟨hx, hb, -, hown, hts⟩ := id X
  refine lv_aload_n hx hb dL_law_575 rfl (lv_at hl 1 rfl) ?_
  refine L_czi X hM ha (c_X11_here hf) gL_law_X11_here rfl ⟨rfl, rfl⟩ ⟨Nat.le_trans (Nat.le_add_right _ _) hcs.1, Nat.le_trans (Nat.le_add_right _ _) hcs.2⟩ hd_X11_here ⟨Nat.le_of_ble_eq_true rfl, Nat.le_of_ble_eq_true rfl⟩ rfl hl.1 rfl (Nat.le_of_ble_eq_true rfl) dL_law_576 (fun H locs hM => ?_)
  refine lv_aload_n hx hb dL_law_579 rfl (lv_at hl 2 rfl) ?_
  refine L_mi X hM (c_here h2) gL_law_X12_here rfl ⟨rfl, rfl⟩ ⟨Nat.le_trans (Nat.le_add_right _ _) hcs.1, Nat.le_trans (Nat.le_add_right _ _) hcs.2⟩ hd_here ⟨Nat.le_of_ble_eq_true rfl, Nat.le_of_ble_eq_true rfl⟩ rfl hl.1 rfl (Nat.le_of_ble_eq_true rfl) dL_law_580 (fun H locs hM => ?_)
  refine lv_icmp_eq (tgt := 1070) hx hb dL_law_583 (by decide) (fun cc1 => ?_) (fun cc1 => ?_)
  rotate_left
  · exact absurd hr.1 cc1
  clear cc1
  refine W.widen (k := cells + lKC) (n := slots + lKT) (Nat.le_add_right _ _) (Nat.le_add_right _ _) ?_
  exact kk _ H locs ls _ hr.2 hM (lv_sub hl [0, 1, 2, 3, 4] rfl)
set_option maxRecDepth 100000 in
set_option maxHeartbeats 4000000 in
theorem lc_go {p : Program} {l : Launch} {e : Env} {s : State} {m : MethodId} {args : Array Value} {below : List Frame} {meth : Method} {c : Code} {H : Heap} {locs : List Loc} {cells slots : Nat} {Q : State → Prop} {ls : Array Slot} {D : va_G} {A0 : Nat → Prop} {y : Nat → ClassId} {S : ZS} {ob : Nat} {cJ : ClassId} {F : Nat → Int64} {h : Nat → Nat} {I : Nat → Int32} {A : Nat → Nat → Int32} {b L : Nat} {xs : Nat → Int32} {i v1 v2 v3 : Int32} {o2 o3 : Int32 × MS} {Nx : ZS → Prop} (h2 : f_go v1 I A = some o2) (h3 : f_thrown o2.2.1 o2.2.2 = some o3) (hf : ∀ F : Nat → Int64, g_X11_go 1 v1 S lKC lKT (fun _ S1 => (lPl o3.1 (F 0) Nx) 0 F S1) (fun k S1 => (k = 2 ∧ (lPl o3.1 (F 0) Nx) 1 F S1))) (hlt : l.stackTraces = false) (X : CallFix p m c cL_law 7 s args wsL_law RL) (hM : LH D y h ob cJ A0 s H locs I A S F) (hX : va_X b L xs s s.heap ∧ b < s.heap.size ∧ ¬ A0 b) (hN : va_Nc (xN 3) (xN 1) s ∧ va_Nc (xN 4) (xN 1) s) (ha : 1 ∈ zL S ∧ zK S 1 = 11) (hs : (vp_in (i + 1) L ∧ xs (i + 1).toNatClampNeg = v1) ∧ (vp_in (i + 2) L ∧ xs (i + 2).toNatClampNeg = v2) ∧ (vp_in (i + 3) L ∧ xs (i + 3).toNatClampNeg = v3)) (hl : lv_has ls 7 [(0, .ref b), (1, .ref (zh y 1)), (2, .ref (h 0)), (3, .ref ob), (4, .int i)]) (hcs : cells + lKC ≤ room_1.cells ∧ slots + lKT ≤ room_1.slots)
    (kk : ∀ (S1 : ZS) (H : Heap) (locs : List Loc) (ls : Array Slot) (F : Nat → Int64), Nx S1 → LH D y h ob cJ A0 s H locs o3.2.1 o3.2.2 S1 F → lv_has ls 7 [(0, .ref b), (1, .ref (zh y 1)), (2, .ref (h 0)), (3, .ref ob), (4, .int i)] → W p l e room_1 s m args below meth c H locs (cells + lKC) (slots + lKT) Q (F0 m 1070 ls [])) : W p l e room_1 s m args below meth c H locs cells slots Q (F0 m 588 ls []) := by
  obtain ⟨hx, hb, -, hown, hts⟩ := id X
  replace hf := hf F
  refine lv_aload_n hx hb dL_law_588 rfl (lv_at hl 1 rfl) ?_
  refine lv_aload_n hx hb dL_law_589 rfl (lv_at hl 0 rfl) ?_
  refine lv_iload hx hb dL_law_590 (lv_at hl 4 rfl) ?_
  refine lv_iconst (v := (1 : Int32)) hx hb dL_law_592 (by decide) ?_
  refine lv_iadd hx hb dL_law_593 ?_
  refine L_sld X hM hX hs.1 dL_law_594 ?_
  refine L_si X hM hN (c_L_go hlt ha hf) gL_law_L_go rfl ⟨rfl, rfl⟩ hcs hd_L_go ⟨Nat.le_of_ble_eq_true rfl, Nat.le_of_ble_eq_true rfl⟩ rfl hl.1 rfl (Nat.le_of_ble_eq_true rfl) dL_law_595 (fun k F1 S1 H locs hp hM => ?_)
  refine lv_istore (lv' := [(5, .int k), (0, .ref b), (1, .ref (zh y 1)), (2, .ref (h 0)), (3, .ref ob), (4, .int i)]) hx hb dL_law_598 hl (by decide) rfl (fun ls hl => ?_)
  refine lv_aload_n hx hb dL_law_600 rfl (lv_at hl 3 rfl) ?_
  refine lv_aload_n hx hb dL_law_601 rfl (lv_at hl 1 rfl) ?_
  refine lv_iload hx hb dL_law_602 (lv_at hl 5 rfl) ?_
  refine lv_iconst (v := (1 : Int32)) hx hb dL_law_604 (by decide) ?_
  refine lv_iadd hx hb dL_law_605 ?_
  refine L_sld X hM hX hs.1 dL_law_606 ?_
  refine L_mv X hM (c_go h2) gL_law_X12_go rfl ⟨rfl, rfl⟩ hcs hd_go ⟨Nat.le_of_ble_eq_true rfl, Nat.le_of_ble_eq_true rfl⟩ rfl hl.1 rfl (Nat.le_of_ble_eq_true rfl) dL_law_607 (fun H locs hM => ?_)
  refine lv_aload_n hx hb dL_law_610 rfl (lv_at hl 3 rfl) ?_
  refine L_mi X hM (c_thrown h3) gL_law_X12_thrown rfl ⟨rfl, rfl⟩ hcs hd_thrown ⟨Nat.le_of_ble_eq_true rfl, Nat.le_of_ble_eq_true rfl⟩ rfl hl.1 rfl (Nat.le_of_ble_eq_true rfl) dL_law_611 (fun H locs hM => ?_)
  refine lv_iload hx hb dL_law_614 (lv_at hl 0 rfl) ?_
  refine lv_icmp_eq (tgt := 621) hx hb dL_law_616 (by decide) (fun cc1 => ?_) (fun cc1 => ?_)
  rotate_left
  · exact absurd hp.1.symm cc1
  clear cc1
  refine lv_goto (tgt := 1070) hx hb dL_law_621 (by decide) ?_
  exact kk _ H locs ls _ hp.2.2 hM (lv_sub hl [1, 2, 3, 4, 5] rfl)
set_option maxRecDepth 100000 in
set_option maxHeartbeats 4000000 in
theorem lc_man {p : Program} {l : Launch} {e : Env} {s : State} {m : MethodId} {args : Array Value} {below : List Frame} {meth : Method} {c : Code} {H : Heap} {locs : List Loc} {cells slots : Nat} {Q : State → Prop} {ls : Array Slot} {D : va_G} {A0 : Nat → Prop} {y : Nat → ClassId} {S : ZS} {ob : Nat} {cJ : ClassId} {F : Nat → Int64} {h : Nat → Nat} {I : Nat → Int32} {A : Nat → Nat → Int32} {b L : Nat} {xs : Nat → Int32} {i v1 v2 v3 : Int32} {o2 o3 : Int32 × MS} {Nx : ZS → Prop} (h2 : f_man v1 I A = some o2) (h3 : f_thrown o2.2.1 o2.2.2 = some o3) (hf : ∀ F : Nat → Int64, g_X11_man 1 v1 S lKC lKT (fun v S1 => ∀ F1 : Nat → Int64, F1 0 = v.toInt64 → (lPl o3.1 o2.1.toInt64 Nx) 0 F1 S1) (fun k S1 => (k = 2 ∧ (lPl o3.1 o2.1.toInt64 Nx) 1 F S1))) (hlt : l.stackTraces = false) (X : CallFix p m c cL_law 7 s args wsL_law RL) (hM : LH D y h ob cJ A0 s H locs I A S F) (hX : va_X b L xs s s.heap ∧ b < s.heap.size ∧ ¬ A0 b) (hN : va_Nc (xN 3) (xN 1) s ∧ va_Nc (xN 4) (xN 1) s) (ha : 1 ∈ zL S ∧ zK S 1 = 11) (hs : (vp_in (i + 1) L ∧ xs (i + 1).toNatClampNeg = v1) ∧ (vp_in (i + 2) L ∧ xs (i + 2).toNatClampNeg = v2) ∧ (vp_in (i + 3) L ∧ xs (i + 3).toNatClampNeg = v3)) (hl : lv_has ls 7 [(0, .ref b), (1, .ref (zh y 1)), (2, .ref (h 0)), (3, .ref ob), (4, .int i)]) (hcs : cells + lKC ≤ room_1.cells ∧ slots + lKT ≤ room_1.slots)
    (kk : ∀ (S1 : ZS) (H : Heap) (locs : List Loc) (ls : Array Slot) (F : Nat → Int64), Nx S1 → LH D y h ob cJ A0 s H locs o3.2.1 o3.2.2 S1 F → lv_has ls 7 [(0, .ref b), (1, .ref (zh y 1)), (2, .ref (h 0)), (3, .ref ob), (4, .int i)] → W p l e room_1 s m args below meth c H locs (cells + lKC) (slots + lKT) Q (F0 m 1070 ls [])) : W p l e room_1 s m args below meth c H locs cells slots Q (F0 m 624 ls []) := by
  obtain ⟨hx, hb, -, hown, hts⟩ := id X
  replace hf := hf F
  refine lv_aload_n hx hb dL_law_624 rfl (lv_at hl 1 rfl) ?_
  refine lv_aload_n hx hb dL_law_625 rfl (lv_at hl 0 rfl) ?_
  refine lv_iload hx hb dL_law_626 (lv_at hl 4 rfl) ?_
  refine lv_iconst (v := (1 : Int32)) hx hb dL_law_628 (by decide) ?_
  refine lv_iadd hx hb dL_law_629 ?_
  refine L_sld X hM hX hs.1 dL_law_630 ?_
  refine lv_aload_n hx hb dL_law_631 rfl (lv_at hl 3 rfl) ?_
  refine L_si X hM hN (c_L_man hlt ha hf) gL_law_L_man rfl ⟨rfl, rfl⟩ hcs hd_L_man ⟨Nat.le_of_ble_eq_true rfl, Nat.le_of_ble_eq_true rfl⟩ rfl hl.1 rfl (Nat.le_of_ble_eq_true rfl) dL_law_632 (fun k F1 S1 H locs hp hM => ?_)
  refine lv_istore (lv' := [(5, .int k), (0, .ref b), (1, .ref (zh y 1)), (2, .ref (h 0)), (3, .ref ob), (4, .int i)]) hx hb dL_law_635 hl (by decide) rfl (fun ls hl => ?_)
  refine lv_aload_n hx hb dL_law_637 rfl (lv_at hl 3 rfl) ?_
  refine lv_aload_n hx hb dL_law_638 rfl (lv_at hl 1 rfl) ?_
  refine lv_iload hx hb dL_law_639 (lv_at hl 5 rfl) ?_
  refine lv_iconst (v := (1 : Int32)) hx hb dL_law_641 (by decide) ?_
  refine lv_iadd hx hb dL_law_642 ?_
  refine L_sld X hM hX hs.1 dL_law_643 ?_
  refine L_mi X hM (c_man h2) gL_law_X12_man rfl ⟨rfl, rfl⟩ hcs hd_man ⟨Nat.le_of_ble_eq_true rfl, Nat.le_of_ble_eq_true rfl⟩ rfl hl.1 rfl (Nat.le_of_ble_eq_true rfl) dL_law_644 (fun H locs hM => ?_)
  refine lv_istore (lv' := [(6, .int o2.1), (5, .int k), (0, .ref b), (1, .ref (zh y 1)), (2, .ref (h 0)), (3, .ref ob), (4, .int i)]) hx hb dL_law_647 hl (by decide) rfl (fun ls hl => ?_)
  refine lv_aload_n hx hb dL_law_649 rfl (lv_at hl 4 rfl) ?_
  refine L_mi X hM (c_thrown h3) gL_law_X12_thrown rfl ⟨rfl, rfl⟩ hcs hd_thrown ⟨Nat.le_of_ble_eq_true rfl, Nat.le_of_ble_eq_true rfl⟩ rfl hl.1 rfl (Nat.le_of_ble_eq_true rfl) dL_law_650 (fun H locs hM => ?_)
  refine lv_iload hx hb dL_law_653 (lv_at hl 1 rfl) ?_
  refine lv_icmp_eq (tgt := 660) hx hb dL_law_655 (by decide) (fun cc1 => ?_) (fun cc1 => ?_)
  rotate_left
  · exact absurd hp.1.symm cc1
  clear cc1
  refine lv_iload hx hb dL_law_660 (lv_at hl 1 rfl) ?_
  refine lv_if_ne (tgt := 677) hx hb dL_law_662 (by decide) (fun cc1 => ?_) (fun cc1 => ?_)
  · skip
    refine lv_goto (tgt := 1070) hx hb dL_law_677 (by decide) ?_
    exact kk _ H locs ls _ hp.2.2 hM (lv_sub hl [2, 3, 4, 5, 6] rfl)
  · skip
    refine lv_aload_n hx hb dL_law_665 rfl (lv_at hl 5 rfl) ?_
    refine lv_iconst (v := (0 : Int32)) hx hb dL_law_666 (by decide) ?_
    refine L_lald X hM dL_law_667 ?_
    refine lv_iload hx hb dL_law_668 (lv_at hl 0 rfl) ?_
    refine lv_i2l (v := o2.1.toInt64) hx hb dL_law_670 rfl ?_
    refine W.lcmp hx hb dL_law_671 ?_
    refine lv_if_eq (tgt := 677) hx hb dL_law_672 (by decide) (fun cc2 => ?_) (fun cc2 => ?_)
    rotate_left
    · exact absurd (lcmp_0 (hp.2.1 cc1)) cc2
    refine lv_goto (tgt := 1070) hx hb dL_law_677 (by decide) ?_
    exact kk _ H locs ls _ hp.2.2 hM (lv_sub hl [2, 3, 4, 5, 6] rfl)
set_option maxRecDepth 100000 in
set_option maxHeartbeats 4000000 in
theorem lc_move {p : Program} {l : Launch} {e : Env} {s : State} {m : MethodId} {args : Array Value} {below : List Frame} {meth : Method} {c : Code} {H : Heap} {locs : List Loc} {cells slots : Nat} {Q : State → Prop} {ls : Array Slot} {D : va_G} {A0 : Nat → Prop} {y : Nat → ClassId} {S : ZS} {ob : Nat} {cJ : ClassId} {F : Nat → Int64} {h : Nat → Nat} {I : Nat → Int32} {A : Nat → Nat → Int32} {b L : Nat} {xs : Nat → Int32} {i v1 v2 v3 : Int32} {o1 : Int32 × ZS} {o2 : Int32 × MS} {Nx : ZS → Prop} (h2 : f_move v1 I A = some o2) (hf : f_X11_move 1 v1 S = some o1) (hr : o1.1 = o2.1 ∧ Nx o1.2) (hlt : l.stackTraces = false) (X : CallFix p m c cL_law 7 s args wsL_law RL) (hM : LH D y h ob cJ A0 s H locs I A S F) (hX : va_X b L xs s s.heap ∧ b < s.heap.size ∧ ¬ A0 b) (hN : va_Nc (xN 3) (xN 1) s ∧ va_Nc (xN 4) (xN 1) s) (ha : 1 ∈ zL S ∧ zK S 1 = 11) (hs : (vp_in (i + 1) L ∧ xs (i + 1).toNatClampNeg = v1) ∧ (vp_in (i + 2) L ∧ xs (i + 2).toNatClampNeg = v2) ∧ (vp_in (i + 3) L ∧ xs (i + 3).toNatClampNeg = v3)) (hl : lv_has ls 7 [(0, .ref b), (1, .ref (zh y 1)), (2, .ref (h 0)), (3, .ref ob), (4, .int i)]) (hcs : cells + lKC ≤ room_1.cells ∧ slots + lKT ≤ room_1.slots)
    (kk : ∀ (S1 : ZS) (H : Heap) (locs : List Loc) (ls : Array Slot) (F : Nat → Int64), Nx S1 → LH D y h ob cJ A0 s H locs o2.2.1 o2.2.2 S1 F → lv_has ls 7 [(0, .ref b), (1, .ref (zh y 1)), (2, .ref (h 0)), (3, .ref ob), (4, .int i)] → W p l e room_1 s m args below meth c H locs (cells + lKC) (slots + lKT) Q (F0 m 1070 ls [])) : W p l e room_1 s m args below meth c H locs cells slots Q (F0 m 680 ls []) := by
  obtain ⟨hx, hb, -, hown, hts⟩ := id X
  refine lv_aload_n hx hb dL_law_680 rfl (lv_at hl 1 rfl) ?_
  refine lv_aload_n hx hb dL_law_681 rfl (lv_at hl 0 rfl) ?_
  refine lv_iload hx hb dL_law_682 (lv_at hl 4 rfl) ?_
  refine lv_iconst (v := (1 : Int32)) hx hb dL_law_684 (by decide) ?_
  refine lv_iadd hx hb dL_law_685 ?_
  refine L_sld X hM hX hs.1 dL_law_686 ?_
  refine L_czi X hM ha (c_X11_move hf) gL_law_X11_move rfl ⟨rfl, rfl⟩ ⟨Nat.le_trans (Nat.le_add_right _ _) hcs.1, Nat.le_trans (Nat.le_add_right _ _) hcs.2⟩ hd_X11_move ⟨Nat.le_of_ble_eq_true rfl, Nat.le_of_ble_eq_true rfl⟩ rfl hl.1 rfl (Nat.le_of_ble_eq_true rfl) dL_law_687 (fun H locs hM => ?_)
  refine lv_aload_n hx hb dL_law_690 rfl (lv_at hl 2 rfl) ?_
  refine lv_aload_n hx hb dL_law_691 rfl (lv_at hl 0 rfl) ?_
  refine lv_iload hx hb dL_law_692 (lv_at hl 4 rfl) ?_
  refine lv_iconst (v := (1 : Int32)) hx hb dL_law_694 (by decide) ?_
  refine lv_iadd hx hb dL_law_695 ?_
  refine L_sld X hM hX hs.1 dL_law_696 ?_
  refine L_mi X hM (c_move h2) gL_law_X12_move rfl ⟨rfl, rfl⟩ ⟨Nat.le_trans (Nat.le_add_right _ _) hcs.1, Nat.le_trans (Nat.le_add_right _ _) hcs.2⟩ hd_move ⟨Nat.le_of_ble_eq_true rfl, Nat.le_of_ble_eq_true rfl⟩ rfl hl.1 rfl (Nat.le_of_ble_eq_true rfl) dL_law_697 (fun H locs hM => ?_)
  refine lv_icmp_eq (tgt := 1070) hx hb dL_law_700 (by decide) (fun cc1 => ?_) (fun cc1 => ?_)
  rotate_left
  · exact absurd hr.1 cc1
  clear cc1
  refine W.widen (k := cells + lKC) (n := slots + lKT) (Nat.le_add_right _ _) (Nat.le_add_right _ _) ?_
  exact kk _ H locs ls _ hr.2 hM (lv_sub hl [0, 1, 2, 3, 4] rfl)
set_option maxRecDepth 100000 in
set_option maxHeartbeats 4000000 in
theorem lc_add {p : Program} {l : Launch} {e : Env} {s : State} {m : MethodId} {args : Array Value} {below : List Frame} {meth : Method} {c : Code} {H : Heap} {locs : List Loc} {cells slots : Nat} {Q : State → Prop} {ls : Array Slot} {D : va_G} {A0 : Nat → Prop} {y : Nat → ClassId} {S : ZS} {ob : Nat} {cJ : ClassId} {F : Nat → Int64} {h : Nat → Nat} {I : Nat → Int32} {A : Nat → Nat → Int32} {b L : Nat} {xs : Nat → Int32} {i v1 v2 v3 : Int32} {o2 o3 : Int32 × MS} {Nx : ZS → Prop} (h2 : f_add v1 I A = some o2) (h3 : f_thrown o2.2.1 o2.2.2 = some o3) (hf : ∀ F : Nat → Int64, g_X11_add 1 v1 S lKC lKT (fun v S1 => ∀ F1 : Nat → Int64, F1 0 = v.toInt64 → (lPl o3.1 o2.1.toInt64 Nx) 0 F1 S1) (fun k S1 => (k = 1 ∧ (lPl o3.1 o2.1.toInt64 Nx) 1 F S1) ∨ (k = 3 ∧ (lPl o3.1 o2.1.toInt64 Nx) 2 F S1))) (hlt : l.stackTraces = false) (X : CallFix p m c cL_law 7 s args wsL_law RL) (hM : LH D y h ob cJ A0 s H locs I A S F) (hX : va_X b L xs s s.heap ∧ b < s.heap.size ∧ ¬ A0 b) (hN : va_Nc (xN 3) (xN 1) s ∧ va_Nc (xN 4) (xN 1) s) (ha : 1 ∈ zL S ∧ zK S 1 = 11) (hs : (vp_in (i + 1) L ∧ xs (i + 1).toNatClampNeg = v1) ∧ (vp_in (i + 2) L ∧ xs (i + 2).toNatClampNeg = v2) ∧ (vp_in (i + 3) L ∧ xs (i + 3).toNatClampNeg = v3)) (hl : lv_has ls 7 [(0, .ref b), (1, .ref (zh y 1)), (2, .ref (h 0)), (3, .ref ob), (4, .int i)]) (hcs : cells + lKC ≤ room_1.cells ∧ slots + lKT ≤ room_1.slots)
    (kk : ∀ (S1 : ZS) (H : Heap) (locs : List Loc) (ls : Array Slot) (F : Nat → Int64), Nx S1 → LH D y h ob cJ A0 s H locs o3.2.1 o3.2.2 S1 F → lv_has ls 7 [(0, .ref b), (1, .ref (zh y 1)), (2, .ref (h 0)), (3, .ref ob), (4, .int i)] → W p l e room_1 s m args below meth c H locs (cells + lKC) (slots + lKT) Q (F0 m 1070 ls [])) : W p l e room_1 s m args below meth c H locs cells slots Q (F0 m 705 ls []) := by
  obtain ⟨hx, hb, -, hown, hts⟩ := id X
  replace hf := hf F
  refine lv_aload_n hx hb dL_law_705 rfl (lv_at hl 1 rfl) ?_
  refine lv_aload_n hx hb dL_law_706 rfl (lv_at hl 0 rfl) ?_
  refine lv_iload hx hb dL_law_707 (lv_at hl 4 rfl) ?_
  refine lv_iconst (v := (1 : Int32)) hx hb dL_law_709 (by decide) ?_
  refine lv_iadd hx hb dL_law_710 ?_
  refine L_sld X hM hX hs.1 dL_law_711 ?_
  refine lv_aload_n hx hb dL_law_712 rfl (lv_at hl 3 rfl) ?_
  refine L_si X hM hN (c_L_add hlt ha hf) gL_law_L_add rfl ⟨rfl, rfl⟩ hcs hd_L_add ⟨Nat.le_of_ble_eq_true rfl, Nat.le_of_ble_eq_true rfl⟩ rfl hl.1 rfl (Nat.le_of_ble_eq_true rfl) dL_law_713 (fun k F1 S1 H locs hp hM => ?_)
  refine lv_istore (lv' := [(5, .int k), (0, .ref b), (1, .ref (zh y 1)), (2, .ref (h 0)), (3, .ref ob), (4, .int i)]) hx hb dL_law_716 hl (by decide) rfl (fun ls hl => ?_)
  refine lv_aload_n hx hb dL_law_718 rfl (lv_at hl 3 rfl) ?_
  refine lv_aload_n hx hb dL_law_719 rfl (lv_at hl 1 rfl) ?_
  refine lv_iload hx hb dL_law_720 (lv_at hl 5 rfl) ?_
  refine lv_iconst (v := (1 : Int32)) hx hb dL_law_722 (by decide) ?_
  refine lv_iadd hx hb dL_law_723 ?_
  refine L_sld X hM hX hs.1 dL_law_724 ?_
  refine L_mi X hM (c_add h2) gL_law_X12_add rfl ⟨rfl, rfl⟩ hcs hd_add ⟨Nat.le_of_ble_eq_true rfl, Nat.le_of_ble_eq_true rfl⟩ rfl hl.1 rfl (Nat.le_of_ble_eq_true rfl) dL_law_725 (fun H locs hM => ?_)
  refine lv_istore (lv' := [(6, .int o2.1), (5, .int k), (0, .ref b), (1, .ref (zh y 1)), (2, .ref (h 0)), (3, .ref ob), (4, .int i)]) hx hb dL_law_728 hl (by decide) rfl (fun ls hl => ?_)
  refine lv_aload_n hx hb dL_law_730 rfl (lv_at hl 4 rfl) ?_
  refine L_mi X hM (c_thrown h3) gL_law_X12_thrown rfl ⟨rfl, rfl⟩ hcs hd_thrown ⟨Nat.le_of_ble_eq_true rfl, Nat.le_of_ble_eq_true rfl⟩ rfl hl.1 rfl (Nat.le_of_ble_eq_true rfl) dL_law_731 (fun H locs hM => ?_)
  refine lv_iload hx hb dL_law_734 (lv_at hl 1 rfl) ?_
  refine lv_icmp_eq (tgt := 741) hx hb dL_law_736 (by decide) (fun cc1 => ?_) (fun cc1 => ?_)
  rotate_left
  · exact absurd hp.1.symm cc1
  clear cc1
  refine lv_iload hx hb dL_law_741 (lv_at hl 1 rfl) ?_
  refine lv_if_ne (tgt := 758) hx hb dL_law_743 (by decide) (fun cc1 => ?_) (fun cc1 => ?_)
  · skip
    refine lv_goto (tgt := 1070) hx hb dL_law_758 (by decide) ?_
    exact kk _ H locs ls _ hp.2.2 hM (lv_sub hl [2, 3, 4, 5, 6] rfl)
  · skip
    refine lv_aload_n hx hb dL_law_746 rfl (lv_at hl 5 rfl) ?_
    refine lv_iconst (v := (0 : Int32)) hx hb dL_law_747 (by decide) ?_
    refine L_lald X hM dL_law_748 ?_
    refine lv_iload hx hb dL_law_749 (lv_at hl 0 rfl) ?_
    refine lv_i2l (v := o2.1.toInt64) hx hb dL_law_751 rfl ?_
    refine W.lcmp hx hb dL_law_752 ?_
    refine lv_if_eq (tgt := 758) hx hb dL_law_753 (by decide) (fun cc2 => ?_) (fun cc2 => ?_)
    rotate_left
    · exact absurd (lcmp_0 (hp.2.1 cc1)) cc2
    refine lv_goto (tgt := 1070) hx hb dL_law_758 (by decide) ?_
    exact kk _ H locs ls _ hp.2.2 hM (lv_sub hl [2, 3, 4, 5, 6] rfl)
set_option maxRecDepth 100000 in
set_option maxHeartbeats 4000000 in
theorem lc_addMark {p : Program} {l : Launch} {e : Env} {s : State} {m : MethodId} {args : Array Value} {below : List Frame} {meth : Method} {c : Code} {H : Heap} {locs : List Loc} {cells slots : Nat} {Q : State → Prop} {ls : Array Slot} {D : va_G} {A0 : Nat → Prop} {y : Nat → ClassId} {S : ZS} {ob : Nat} {cJ : ClassId} {F : Nat → Int64} {h : Nat → Nat} {I : Nat → Int32} {A : Nat → Nat → Int32} {b L : Nat} {xs : Nat → Int32} {i v1 v2 v3 : Int32} {o2 o3 : Int32 × MS} {Nx : ZS → Prop} (h2 : f_addMark v1 I A = some o2) (h3 : f_thrown o2.2.1 o2.2.2 = some o3) (hf : ∀ F : Nat → Int64, g_X11_addMark 1 v1 S lKC lKT (fun v S1 => ∀ F1 : Nat → Int64, F1 0 = v.toInt64 → (lPl o3.1 o2.1.toInt64 Nx) 0 F1 S1) (fun k S1 => (k = 1 ∧ (lPl o3.1 o2.1.toInt64 Nx) 1 F S1) ∨ (k = 4 ∧ (lPl o3.1 o2.1.toInt64 Nx) 2 F S1))) (hlt : l.stackTraces = false) (X : CallFix p m c cL_law 7 s args wsL_law RL) (hM : LH D y h ob cJ A0 s H locs I A S F) (hX : va_X b L xs s s.heap ∧ b < s.heap.size ∧ ¬ A0 b) (hN : va_Nc (xN 3) (xN 1) s ∧ va_Nc (xN 4) (xN 1) s) (ha : 1 ∈ zL S ∧ zK S 1 = 11) (hs : (vp_in (i + 1) L ∧ xs (i + 1).toNatClampNeg = v1) ∧ (vp_in (i + 2) L ∧ xs (i + 2).toNatClampNeg = v2) ∧ (vp_in (i + 3) L ∧ xs (i + 3).toNatClampNeg = v3)) (hl : lv_has ls 7 [(0, .ref b), (1, .ref (zh y 1)), (2, .ref (h 0)), (3, .ref ob), (4, .int i)]) (hcs : cells + lKC ≤ room_1.cells ∧ slots + lKT ≤ room_1.slots)
    (kk : ∀ (S1 : ZS) (H : Heap) (locs : List Loc) (ls : Array Slot) (F : Nat → Int64), Nx S1 → LH D y h ob cJ A0 s H locs o3.2.1 o3.2.2 S1 F → lv_has ls 7 [(0, .ref b), (1, .ref (zh y 1)), (2, .ref (h 0)), (3, .ref ob), (4, .int i)] → W p l e room_1 s m args below meth c H locs (cells + lKC) (slots + lKT) Q (F0 m 1070 ls [])) : W p l e room_1 s m args below meth c H locs cells slots Q (F0 m 761 ls []) := by
  obtain ⟨hx, hb, -, hown, hts⟩ := id X
  replace hf := hf F
  refine lv_aload_n hx hb dL_law_761 rfl (lv_at hl 1 rfl) ?_
  refine lv_aload_n hx hb dL_law_762 rfl (lv_at hl 0 rfl) ?_
  refine lv_iload hx hb dL_law_763 (lv_at hl 4 rfl) ?_
  refine lv_iconst (v := (1 : Int32)) hx hb dL_law_765 (by decide) ?_
  refine lv_iadd hx hb dL_law_766 ?_
  refine L_sld X hM hX hs.1 dL_law_767 ?_
  refine lv_aload_n hx hb dL_law_768 rfl (lv_at hl 3 rfl) ?_
  refine L_si X hM hN (c_L_addMark hlt ha hf) gL_law_L_addMark rfl ⟨rfl, rfl⟩ hcs hd_L_addMark ⟨Nat.le_of_ble_eq_true rfl, Nat.le_of_ble_eq_true rfl⟩ rfl hl.1 rfl (Nat.le_of_ble_eq_true rfl) dL_law_769 (fun k F1 S1 H locs hp hM => ?_)
  refine lv_istore (lv' := [(5, .int k), (0, .ref b), (1, .ref (zh y 1)), (2, .ref (h 0)), (3, .ref ob), (4, .int i)]) hx hb dL_law_772 hl (by decide) rfl (fun ls hl => ?_)
  refine lv_aload_n hx hb dL_law_774 rfl (lv_at hl 3 rfl) ?_
  refine lv_aload_n hx hb dL_law_775 rfl (lv_at hl 1 rfl) ?_
  refine lv_iload hx hb dL_law_776 (lv_at hl 5 rfl) ?_
  refine lv_iconst (v := (1 : Int32)) hx hb dL_law_778 (by decide) ?_
  refine lv_iadd hx hb dL_law_779 ?_
  refine L_sld X hM hX hs.1 dL_law_780 ?_
  refine L_mi X hM (c_addMark h2) gL_law_X12_addMark rfl ⟨rfl, rfl⟩ hcs hd_addMark ⟨Nat.le_of_ble_eq_true rfl, Nat.le_of_ble_eq_true rfl⟩ rfl hl.1 rfl (Nat.le_of_ble_eq_true rfl) dL_law_781 (fun H locs hM => ?_)
  refine lv_istore (lv' := [(6, .int o2.1), (5, .int k), (0, .ref b), (1, .ref (zh y 1)), (2, .ref (h 0)), (3, .ref ob), (4, .int i)]) hx hb dL_law_784 hl (by decide) rfl (fun ls hl => ?_)
  refine lv_aload_n hx hb dL_law_786 rfl (lv_at hl 4 rfl) ?_
  refine L_mi X hM (c_thrown h3) gL_law_X12_thrown rfl ⟨rfl, rfl⟩ hcs hd_thrown ⟨Nat.le_of_ble_eq_true rfl, Nat.le_of_ble_eq_true rfl⟩ rfl hl.1 rfl (Nat.le_of_ble_eq_true rfl) dL_law_787 (fun H locs hM => ?_)
  refine lv_iload hx hb dL_law_790 (lv_at hl 1 rfl) ?_
  refine lv_icmp_eq (tgt := 797) hx hb dL_law_792 (by decide) (fun cc1 => ?_) (fun cc1 => ?_)
  rotate_left
  · exact absurd hp.1.symm cc1
  clear cc1
  refine lv_iload hx hb dL_law_797 (lv_at hl 1 rfl) ?_
  refine lv_if_ne (tgt := 814) hx hb dL_law_799 (by decide) (fun cc1 => ?_) (fun cc1 => ?_)
  · skip
    refine lv_goto (tgt := 1070) hx hb dL_law_814 (by decide) ?_
    exact kk _ H locs ls _ hp.2.2 hM (lv_sub hl [2, 3, 4, 5, 6] rfl)
  · skip
    refine lv_aload_n hx hb dL_law_802 rfl (lv_at hl 5 rfl) ?_
    refine lv_iconst (v := (0 : Int32)) hx hb dL_law_803 (by decide) ?_
    refine L_lald X hM dL_law_804 ?_
    refine lv_iload hx hb dL_law_805 (lv_at hl 0 rfl) ?_
    refine lv_i2l (v := o2.1.toInt64) hx hb dL_law_807 rfl ?_
    refine W.lcmp hx hb dL_law_808 ?_
    refine lv_if_eq (tgt := 814) hx hb dL_law_809 (by decide) (fun cc2 => ?_) (fun cc2 => ?_)
    rotate_left
    · exact absurd (lcmp_0 (hp.2.1 cc1)) cc2
    refine lv_goto (tgt := 1070) hx hb dL_law_814 (by decide) ?_
    exact kk _ H locs ls _ hp.2.2 hM (lv_sub hl [2, 3, 4, 5, 6] rfl)
set_option maxRecDepth 100000 in
set_option maxHeartbeats 4000000 in
theorem lc_say {p : Program} {l : Launch} {e : Env} {s : State} {m : MethodId} {args : Array Value} {below : List Frame} {meth : Method} {c : Code} {H : Heap} {locs : List Loc} {cells slots : Nat} {Q : State → Prop} {ls : Array Slot} {D : va_G} {A0 : Nat → Prop} {y : Nat → ClassId} {S : ZS} {ob : Nat} {cJ : ClassId} {F : Nat → Int64} {h : Nat → Nat} {I : Nat → Int32} {A : Nat → Nat → Int32} {b L : Nat} {xs : Nat → Int32} {i v1 v2 v3 : Int32} {o2 o3 : Int32 × MS} {Nx : ZS → Prop} (h2 : f_say I A = some o2) (h3 : f_thrown o2.2.1 o2.2.2 = some o3) (hf : ∀ F : Nat → Int64, g_X11_say 1 S lKC lKT (fun v S1 => ∀ F1 : Nat → Int64, F1 0 = v.toInt64 → (lPl o3.1 o2.1.toInt64 Nx) 0 F1 S1) (fun k S1 => (k = 1 ∧ (lPl o3.1 o2.1.toInt64 Nx) 1 F S1))) (hlt : l.stackTraces = false) (X : CallFix p m c cL_law 7 s args wsL_law RL) (hM : LH D y h ob cJ A0 s H locs I A S F) (hX : va_X b L xs s s.heap ∧ b < s.heap.size ∧ ¬ A0 b) (hN : va_Nc (xN 3) (xN 1) s ∧ va_Nc (xN 4) (xN 1) s) (ha : 1 ∈ zL S ∧ zK S 1 = 11) (hs : (vp_in (i + 1) L ∧ xs (i + 1).toNatClampNeg = v1) ∧ (vp_in (i + 2) L ∧ xs (i + 2).toNatClampNeg = v2) ∧ (vp_in (i + 3) L ∧ xs (i + 3).toNatClampNeg = v3)) (hl : lv_has ls 7 [(0, .ref b), (1, .ref (zh y 1)), (2, .ref (h 0)), (3, .ref ob), (4, .int i)]) (hcs : cells + lKC ≤ room_1.cells ∧ slots + lKT ≤ room_1.slots)
    (kk : ∀ (S1 : ZS) (H : Heap) (locs : List Loc) (ls : Array Slot) (F : Nat → Int64), Nx S1 → LH D y h ob cJ A0 s H locs o3.2.1 o3.2.2 S1 F → lv_has ls 7 [(0, .ref b), (1, .ref (zh y 1)), (2, .ref (h 0)), (3, .ref ob), (4, .int i)] → W p l e room_1 s m args below meth c H locs (cells + lKC) (slots + lKT) Q (F0 m 1070 ls [])) : W p l e room_1 s m args below meth c H locs cells slots Q (F0 m 817 ls []) := by
  obtain ⟨hx, hb, -, hown, hts⟩ := id X
  replace hf := hf F
  refine lv_aload_n hx hb dL_law_817 rfl (lv_at hl 1 rfl) ?_
  refine lv_aload_n hx hb dL_law_818 rfl (lv_at hl 3 rfl) ?_
  refine L_si X hM hN (c_L_say hlt ha hf) gL_law_L_say rfl ⟨rfl, rfl⟩ hcs hd_L_say ⟨Nat.le_of_ble_eq_true rfl, Nat.le_of_ble_eq_true rfl⟩ rfl hl.1 rfl (Nat.le_of_ble_eq_true rfl) dL_law_819 (fun k F1 S1 H locs hp hM => ?_)
  refine lv_istore (lv' := [(5, .int k), (0, .ref b), (1, .ref (zh y 1)), (2, .ref (h 0)), (3, .ref ob), (4, .int i)]) hx hb dL_law_822 hl (by decide) rfl (fun ls hl => ?_)
  refine lv_aload_n hx hb dL_law_824 rfl (lv_at hl 3 rfl) ?_
  refine L_mi X hM (c_say h2) gL_law_X12_say rfl ⟨rfl, rfl⟩ hcs hd_say ⟨Nat.le_of_ble_eq_true rfl, Nat.le_of_ble_eq_true rfl⟩ rfl hl.1 rfl (Nat.le_of_ble_eq_true rfl) dL_law_825 (fun H locs hM => ?_)
  refine lv_istore (lv' := [(6, .int o2.1), (5, .int k), (0, .ref b), (1, .ref (zh y 1)), (2, .ref (h 0)), (3, .ref ob), (4, .int i)]) hx hb dL_law_828 hl (by decide) rfl (fun ls hl => ?_)
  refine lv_aload_n hx hb dL_law_830 rfl (lv_at hl 4 rfl) ?_
  refine L_mi X hM (c_thrown h3) gL_law_X12_thrown rfl ⟨rfl, rfl⟩ hcs hd_thrown ⟨Nat.le_of_ble_eq_true rfl, Nat.le_of_ble_eq_true rfl⟩ rfl hl.1 rfl (Nat.le_of_ble_eq_true rfl) dL_law_831 (fun H locs hM => ?_)
  refine lv_iload hx hb dL_law_834 (lv_at hl 1 rfl) ?_
  refine lv_icmp_eq (tgt := 841) hx hb dL_law_836 (by decide) (fun cc1 => ?_) (fun cc1 => ?_)
  rotate_left
  · exact absurd hp.1.symm cc1
  clear cc1
  refine lv_iload hx hb dL_law_841 (lv_at hl 1 rfl) ?_
  refine lv_if_ne (tgt := 858) hx hb dL_law_843 (by decide) (fun cc1 => ?_) (fun cc1 => ?_)
  · skip
    refine lv_goto (tgt := 1070) hx hb dL_law_858 (by decide) ?_
    exact kk _ H locs ls _ hp.2.2 hM (lv_sub hl [2, 3, 4, 5, 6] rfl)
  · skip
    refine lv_aload_n hx hb dL_law_846 rfl (lv_at hl 5 rfl) ?_
    refine lv_iconst (v := (0 : Int32)) hx hb dL_law_847 (by decide) ?_
    refine L_lald X hM dL_law_848 ?_
    refine lv_iload hx hb dL_law_849 (lv_at hl 0 rfl) ?_
    refine lv_i2l (v := o2.1.toInt64) hx hb dL_law_851 rfl ?_
    refine W.lcmp hx hb dL_law_852 ?_
    refine lv_if_eq (tgt := 858) hx hb dL_law_853 (by decide) (fun cc2 => ?_) (fun cc2 => ?_)
    rotate_left
    · exact absurd (lcmp_0 (hp.2.1 cc1)) cc2
    refine lv_goto (tgt := 1070) hx hb dL_law_858 (by decide) ?_
    exact kk _ H locs ls _ hp.2.2 hM (lv_sub hl [2, 3, 4, 5, 6] rfl)
set_option maxRecDepth 100000 in
set_option maxHeartbeats 4000000 in
theorem lc_lead {p : Program} {l : Launch} {e : Env} {s : State} {m : MethodId} {args : Array Value} {below : List Frame} {meth : Method} {c : Code} {H : Heap} {locs : List Loc} {cells slots : Nat} {Q : State → Prop} {ls : Array Slot} {D : va_G} {A0 : Nat → Prop} {y : Nat → ClassId} {S : ZS} {ob : Nat} {cJ : ClassId} {F : Nat → Int64} {h : Nat → Nat} {I : Nat → Int32} {A : Nat → Nat → Int32} {b L : Nat} {xs : Nat → Int32} {i v1 v2 v3 : Int32} {o2 o3 : Int32 × MS} {Nx : ZS → Prop} (h2 : f_lead I A = some o2) (h3 : f_thrown o2.2.1 o2.2.2 = some o3) (hf : ∀ F : Nat → Int64, g_X11_lead 1 S lKC lKT (fun v S1 => ∀ F1 : Nat → Int64, F1 0 = (if v = 0 then 0 else 1) → (lPl o3.1 (if o2.1 = 0 then 0 else 1) Nx) 0 F1 S1) (fun k S1 => (k = 4 ∧ (lPl o3.1 (if o2.1 = 0 then 0 else 1) Nx) 1 F S1))) (hlt : l.stackTraces = false) (X : CallFix p m c cL_law 7 s args wsL_law RL) (hM : LH D y h ob cJ A0 s H locs I A S F) (hX : va_X b L xs s s.heap ∧ b < s.heap.size ∧ ¬ A0 b) (hN : va_Nc (xN 3) (xN 1) s ∧ va_Nc (xN 4) (xN 1) s) (ha : 1 ∈ zL S ∧ zK S 1 = 11) (hs : (vp_in (i + 1) L ∧ xs (i + 1).toNatClampNeg = v1) ∧ (vp_in (i + 2) L ∧ xs (i + 2).toNatClampNeg = v2) ∧ (vp_in (i + 3) L ∧ xs (i + 3).toNatClampNeg = v3)) (hl : lv_has ls 7 [(0, .ref b), (1, .ref (zh y 1)), (2, .ref (h 0)), (3, .ref ob), (4, .int i)]) (hcs : cells + lKC ≤ room_1.cells ∧ slots + lKT ≤ room_1.slots)
    (kk : ∀ (S1 : ZS) (H : Heap) (locs : List Loc) (ls : Array Slot) (F : Nat → Int64), Nx S1 → LH D y h ob cJ A0 s H locs o3.2.1 o3.2.2 S1 F → lv_has ls 7 [(0, .ref b), (1, .ref (zh y 1)), (2, .ref (h 0)), (3, .ref ob), (4, .int i)] → W p l e room_1 s m args below meth c H locs (cells + lKC) (slots + lKT) Q (F0 m 1070 ls [])) : W p l e room_1 s m args below meth c H locs cells slots Q (F0 m 861 ls []) := by
  obtain ⟨hx, hb, -, hown, hts⟩ := id X
  replace hf := hf F
  refine lv_aload_n hx hb dL_law_861 rfl (lv_at hl 1 rfl) ?_
  refine lv_aload_n hx hb dL_law_862 rfl (lv_at hl 3 rfl) ?_
  refine L_si X hM hN (c_L_lead hlt ha hf) gL_law_L_lead rfl ⟨rfl, rfl⟩ hcs hd_L_lead ⟨Nat.le_of_ble_eq_true rfl, Nat.le_of_ble_eq_true rfl⟩ rfl hl.1 rfl (Nat.le_of_ble_eq_true rfl) dL_law_863 (fun k F1 S1 H locs hp hM => ?_)
  refine lv_istore (lv' := [(5, .int k), (0, .ref b), (1, .ref (zh y 1)), (2, .ref (h 0)), (3, .ref ob), (4, .int i)]) hx hb dL_law_866 hl (by decide) rfl (fun ls hl => ?_)
  refine lv_aload_n hx hb dL_law_868 rfl (lv_at hl 3 rfl) ?_
  refine L_mi X hM (c_lead h2) gL_law_X12_lead rfl ⟨rfl, rfl⟩ hcs hd_lead ⟨Nat.le_of_ble_eq_true rfl, Nat.le_of_ble_eq_true rfl⟩ rfl hl.1 rfl (Nat.le_of_ble_eq_true rfl) dL_law_869 (fun H locs hM => ?_)
  refine lv_istore (lv' := [(6, .int o2.1), (5, .int k), (0, .ref b), (1, .ref (zh y 1)), (2, .ref (h 0)), (3, .ref ob), (4, .int i)]) hx hb dL_law_872 hl (by decide) rfl (fun ls hl => ?_)
  refine lv_aload_n hx hb dL_law_874 rfl (lv_at hl 4 rfl) ?_
  refine L_mi X hM (c_thrown h3) gL_law_X12_thrown rfl ⟨rfl, rfl⟩ hcs hd_thrown ⟨Nat.le_of_ble_eq_true rfl, Nat.le_of_ble_eq_true rfl⟩ rfl hl.1 rfl (Nat.le_of_ble_eq_true rfl) dL_law_875 (fun H locs hM => ?_)
  refine lv_iload hx hb dL_law_878 (lv_at hl 1 rfl) ?_
  refine lv_icmp_eq (tgt := 885) hx hb dL_law_880 (by decide) (fun cc1 => ?_) (fun cc1 => ?_)
  rotate_left
  · exact absurd hp.1.symm cc1
  clear cc1
  refine lv_iload hx hb dL_law_885 (lv_at hl 1 rfl) ?_
  refine lv_if_ne (tgt := 909) hx hb dL_law_887 (by decide) (fun cc1 => ?_) (fun cc1 => ?_)
  · skip
    refine lv_goto (tgt := 1070) hx hb dL_law_909 (by decide) ?_
    exact kk _ H locs ls _ hp.2.2 hM (lv_sub hl [2, 3, 4, 5, 6] rfl)
  · skip
    refine lv_aload_n hx hb dL_law_890 rfl (lv_at hl 5 rfl) ?_
    refine lv_iconst (v := (0 : Int32)) hx hb dL_law_891 (by decide) ?_
    refine L_lald X hM dL_law_892 ?_
    refine lv_iload hx hb dL_law_893 (lv_at hl 0 rfl) ?_
    refine lv_if_eq (tgt := 902) hx hb dL_law_895 (by decide) (fun cb => ?_) (fun cb => ?_)
    · rw [if_pos cb] at hp
      refine lv_lconst (v := (0 : Int64)) hx hb dL_law_902 (by decide) ?_
      refine W.lcmp hx hb dL_law_903 ?_
      refine lv_if_eq (tgt := 909) hx hb dL_law_904 (by decide) (fun cc2 => ?_) (fun cc2 => ?_)
      rotate_left
      · exact absurd (lcmp_0 (hp.2.1 cc1)) cc2
      refine lv_goto (tgt := 1070) hx hb dL_law_909 (by decide) ?_
      exact kk _ H locs ls _ hp.2.2 hM (lv_sub hl [2, 3, 4, 5, 6] rfl)
    · rw [if_neg cb] at hp
      refine lv_lconst (v := (1 : Int64)) hx hb dL_law_898 (by decide) ?_
      refine lv_goto (tgt := 903) hx hb dL_law_899 (by decide) ?_
      refine W.lcmp hx hb dL_law_903 ?_
      refine lv_if_eq (tgt := 909) hx hb dL_law_904 (by decide) (fun cc2 => ?_) (fun cc2 => ?_)
      rotate_left
      · exact absurd (lcmp_0 (hp.2.1 cc1)) cc2
      refine lv_goto (tgt := 1070) hx hb dL_law_909 (by decide) ?_
      exact kk _ H locs ls _ hp.2.2 hM (lv_sub hl [2, 3, 4, 5, 6] rfl)
set_option maxRecDepth 100000 in
set_option maxHeartbeats 4000000 in
theorem lc_end {p : Program} {l : Launch} {e : Env} {s : State} {m : MethodId} {args : Array Value} {below : List Frame} {meth : Method} {c : Code} {H : Heap} {locs : List Loc} {cells slots : Nat} {Q : State → Prop} {ls : Array Slot} {D : va_G} {A0 : Nat → Prop} {y : Nat → ClassId} {S : ZS} {ob : Nat} {cJ : ClassId} {F : Nat → Int64} {h : Nat → Nat} {I : Nat → Int32} {A : Nat → Nat → Int32} {b L : Nat} {xs : Nat → Int32} {i v1 v2 v3 : Int32} {o2 o3 : Int32 × MS} {Nx : ZS → Prop} (h2 : f_end v1 I A = some o2) (h3 : f_thrown o2.2.1 o2.2.2 = some o3) (hf : ∀ F : Nat → Int64, g_X11_end 1 v1 S lKC lKT (fun _ S1 => (lPl o3.1 (F 0) Nx) 0 F S1) (fun k S1 => (k = 1 ∧ (lPl o3.1 (F 0) Nx) 1 F S1))) (hlt : l.stackTraces = false) (X : CallFix p m c cL_law 7 s args wsL_law RL) (hM : LH D y h ob cJ A0 s H locs I A S F) (hX : va_X b L xs s s.heap ∧ b < s.heap.size ∧ ¬ A0 b) (hN : va_Nc (xN 3) (xN 1) s ∧ va_Nc (xN 4) (xN 1) s) (ha : 1 ∈ zL S ∧ zK S 1 = 11) (hs : (vp_in (i + 1) L ∧ xs (i + 1).toNatClampNeg = v1) ∧ (vp_in (i + 2) L ∧ xs (i + 2).toNatClampNeg = v2) ∧ (vp_in (i + 3) L ∧ xs (i + 3).toNatClampNeg = v3)) (hl : lv_has ls 7 [(0, .ref b), (1, .ref (zh y 1)), (2, .ref (h 0)), (3, .ref ob), (4, .int i)]) (hcs : cells + lKC ≤ room_1.cells ∧ slots + lKT ≤ room_1.slots)
    (kk : ∀ (S1 : ZS) (H : Heap) (locs : List Loc) (ls : Array Slot) (F : Nat → Int64), Nx S1 → LH D y h ob cJ A0 s H locs o3.2.1 o3.2.2 S1 F → lv_has ls 7 [(0, .ref b), (1, .ref (zh y 1)), (2, .ref (h 0)), (3, .ref ob), (4, .int i)] → W p l e room_1 s m args below meth c H locs (cells + lKC) (slots + lKT) Q (F0 m 1070 ls [])) : W p l e room_1 s m args below meth c H locs cells slots Q (F0 m 912 ls []) := by
  obtain ⟨hx, hb, -, hown, hts⟩ := id X
  replace hf := hf F
  refine lv_aload_n hx hb dL_law_912 rfl (lv_at hl 1 rfl) ?_
  refine lv_aload_n hx hb dL_law_913 rfl (lv_at hl 0 rfl) ?_
  refine lv_iload hx hb dL_law_914 (lv_at hl 4 rfl) ?_
  refine lv_iconst (v := (1 : Int32)) hx hb dL_law_916 (by decide) ?_
  refine lv_iadd hx hb dL_law_917 ?_
  refine L_sld X hM hX hs.1 dL_law_918 ?_
  refine L_si X hM hN (c_L_end hlt ha hf) gL_law_L_end rfl ⟨rfl, rfl⟩ hcs hd_L_end ⟨Nat.le_of_ble_eq_true rfl, Nat.le_of_ble_eq_true rfl⟩ rfl hl.1 rfl (Nat.le_of_ble_eq_true rfl) dL_law_919 (fun k F1 S1 H locs hp hM => ?_)
  refine lv_istore (lv' := [(5, .int k), (0, .ref b), (1, .ref (zh y 1)), (2, .ref (h 0)), (3, .ref ob), (4, .int i)]) hx hb dL_law_922 hl (by decide) rfl (fun ls hl => ?_)
  refine lv_aload_n hx hb dL_law_924 rfl (lv_at hl 3 rfl) ?_
  refine lv_aload_n hx hb dL_law_925 rfl (lv_at hl 1 rfl) ?_
  refine lv_iload hx hb dL_law_926 (lv_at hl 5 rfl) ?_
  refine lv_iconst (v := (1 : Int32)) hx hb dL_law_928 (by decide) ?_
  refine lv_iadd hx hb dL_law_929 ?_
  refine L_sld X hM hX hs.1 dL_law_930 ?_
  refine L_mv X hM (c_end h2) gL_law_X12_end rfl ⟨rfl, rfl⟩ hcs hd_end ⟨Nat.le_of_ble_eq_true rfl, Nat.le_of_ble_eq_true rfl⟩ rfl hl.1 rfl (Nat.le_of_ble_eq_true rfl) dL_law_931 (fun H locs hM => ?_)
  refine lv_aload_n hx hb dL_law_934 rfl (lv_at hl 3 rfl) ?_
  refine L_mi X hM (c_thrown h3) gL_law_X12_thrown rfl ⟨rfl, rfl⟩ hcs hd_thrown ⟨Nat.le_of_ble_eq_true rfl, Nat.le_of_ble_eq_true rfl⟩ rfl hl.1 rfl (Nat.le_of_ble_eq_true rfl) dL_law_935 (fun H locs hM => ?_)
  refine lv_iload hx hb dL_law_938 (lv_at hl 0 rfl) ?_
  refine lv_icmp_eq (tgt := 945) hx hb dL_law_940 (by decide) (fun cc1 => ?_) (fun cc1 => ?_)
  rotate_left
  · exact absurd hp.1.symm cc1
  clear cc1
  refine lv_goto (tgt := 1070) hx hb dL_law_945 (by decide) ?_
  exact kk _ H locs ls _ hp.2.2 hM (lv_sub hl [1, 2, 3, 4, 5] rfl)
set_option maxRecDepth 100000 in
set_option maxHeartbeats 4000000 in
theorem lc_result {p : Program} {l : Launch} {e : Env} {s : State} {m : MethodId} {args : Array Value} {below : List Frame} {meth : Method} {c : Code} {H : Heap} {locs : List Loc} {cells slots : Nat} {Q : State → Prop} {ls : Array Slot} {D : va_G} {A0 : Nat → Prop} {y : Nat → ClassId} {S : ZS} {ob : Nat} {cJ : ClassId} {F : Nat → Int64} {h : Nat → Nat} {I : Nat → Int32} {A : Nat → Nat → Int32} {b L : Nat} {xs : Nat → Int32} {i v1 v2 v3 : Int32} {o1 : Int32 × ZS} {o2 : Int32 × MS} {Nx : ZS → Prop} (h2 : f_result I A = some o2) (hf : f_X11_result 1 S = some o1) (hr : o1.1 = o2.1 ∧ Nx o1.2) (hlt : l.stackTraces = false) (X : CallFix p m c cL_law 7 s args wsL_law RL) (hM : LH D y h ob cJ A0 s H locs I A S F) (hX : va_X b L xs s s.heap ∧ b < s.heap.size ∧ ¬ A0 b) (hN : va_Nc (xN 3) (xN 1) s ∧ va_Nc (xN 4) (xN 1) s) (ha : 1 ∈ zL S ∧ zK S 1 = 11) (hs : (vp_in (i + 1) L ∧ xs (i + 1).toNatClampNeg = v1) ∧ (vp_in (i + 2) L ∧ xs (i + 2).toNatClampNeg = v2) ∧ (vp_in (i + 3) L ∧ xs (i + 3).toNatClampNeg = v3)) (hl : lv_has ls 7 [(0, .ref b), (1, .ref (zh y 1)), (2, .ref (h 0)), (3, .ref ob), (4, .int i)]) (hcs : cells + lKC ≤ room_1.cells ∧ slots + lKT ≤ room_1.slots)
    (kk : ∀ (S1 : ZS) (H : Heap) (locs : List Loc) (ls : Array Slot) (F : Nat → Int64), Nx S1 → LH D y h ob cJ A0 s H locs o2.2.1 o2.2.2 S1 F → lv_has ls 7 [(0, .ref b), (1, .ref (zh y 1)), (2, .ref (h 0)), (3, .ref ob), (4, .int i)] → W p l e room_1 s m args below meth c H locs (cells + lKC) (slots + lKT) Q (F0 m 1070 ls [])) : W p l e room_1 s m args below meth c H locs cells slots Q (F0 m 948 ls []) := by
  obtain ⟨hx, hb, -, hown, hts⟩ := id X
  refine lv_aload_n hx hb dL_law_948 rfl (lv_at hl 1 rfl) ?_
  refine L_czi X hM ha (c_X11_result hf) gL_law_X11_result rfl ⟨rfl, rfl⟩ ⟨Nat.le_trans (Nat.le_add_right _ _) hcs.1, Nat.le_trans (Nat.le_add_right _ _) hcs.2⟩ hd_X11_result ⟨Nat.le_of_ble_eq_true rfl, Nat.le_of_ble_eq_true rfl⟩ rfl hl.1 rfl (Nat.le_of_ble_eq_true rfl) dL_law_949 (fun H locs hM => ?_)
  refine lv_aload_n hx hb dL_law_952 rfl (lv_at hl 2 rfl) ?_
  refine L_mi X hM (c_result h2) gL_law_X12_result rfl ⟨rfl, rfl⟩ ⟨Nat.le_trans (Nat.le_add_right _ _) hcs.1, Nat.le_trans (Nat.le_add_right _ _) hcs.2⟩ hd_result ⟨Nat.le_of_ble_eq_true rfl, Nat.le_of_ble_eq_true rfl⟩ rfl hl.1 rfl (Nat.le_of_ble_eq_true rfl) dL_law_953 (fun H locs hM => ?_)
  refine lv_icmp_eq (tgt := 1070) hx hb dL_law_956 (by decide) (fun cc1 => ?_) (fun cc1 => ?_)
  rotate_left
  · exact absurd hr.1 cc1
  clear cc1
  refine W.widen (k := cells + lKC) (n := slots + lKT) (Nat.le_add_right _ _) (Nat.le_add_right _ _) ?_
  exact kk _ H locs ls _ hr.2 hM (lv_sub hl [0, 1, 2, 3, 4] rfl)
set_option maxRecDepth 100000 in
set_option maxHeartbeats 4000000 in
theorem lc_tags {p : Program} {l : Launch} {e : Env} {s : State} {m : MethodId} {args : Array Value} {below : List Frame} {meth : Method} {c : Code} {H : Heap} {locs : List Loc} {cells slots : Nat} {Q : State → Prop} {ls : Array Slot} {D : va_G} {A0 : Nat → Prop} {y : Nat → ClassId} {S : ZS} {ob : Nat} {cJ : ClassId} {F : Nat → Int64} {h : Nat → Nat} {I : Nat → Int32} {A : Nat → Nat → Int32} {b L : Nat} {xs : Nat → Int32} {i v1 v2 v3 : Int32} {o1 : Int32 × ZS} {o2 : Int32 × MS} {Nx : ZS → Prop} (h2 : f_tags I A = some o2) (hf : f_X11_tags 1 S = some o1) (hr : o1.1 = o2.1 ∧ Nx o1.2) (hlt : l.stackTraces = false) (X : CallFix p m c cL_law 7 s args wsL_law RL) (hM : LH D y h ob cJ A0 s H locs I A S F) (hX : va_X b L xs s s.heap ∧ b < s.heap.size ∧ ¬ A0 b) (hN : va_Nc (xN 3) (xN 1) s ∧ va_Nc (xN 4) (xN 1) s) (ha : 1 ∈ zL S ∧ zK S 1 = 11) (hs : (vp_in (i + 1) L ∧ xs (i + 1).toNatClampNeg = v1) ∧ (vp_in (i + 2) L ∧ xs (i + 2).toNatClampNeg = v2) ∧ (vp_in (i + 3) L ∧ xs (i + 3).toNatClampNeg = v3)) (hl : lv_has ls 7 [(0, .ref b), (1, .ref (zh y 1)), (2, .ref (h 0)), (3, .ref ob), (4, .int i)]) (hcs : cells + lKC ≤ room_1.cells ∧ slots + lKT ≤ room_1.slots)
    (kk : ∀ (S1 : ZS) (H : Heap) (locs : List Loc) (ls : Array Slot) (F : Nat → Int64), Nx S1 → LH D y h ob cJ A0 s H locs o2.2.1 o2.2.2 S1 F → lv_has ls 7 [(0, .ref b), (1, .ref (zh y 1)), (2, .ref (h 0)), (3, .ref ob), (4, .int i)] → W p l e room_1 s m args below meth c H locs (cells + lKC) (slots + lKT) Q (F0 m 1070 ls [])) : W p l e room_1 s m args below meth c H locs cells slots Q (F0 m 961 ls []) := by
  obtain ⟨hx, hb, -, hown, hts⟩ := id X
  refine lv_aload_n hx hb dL_law_961 rfl (lv_at hl 1 rfl) ?_
  refine L_czi X hM ha (c_X11_tags hf) gL_law_X11_tags rfl ⟨rfl, rfl⟩ ⟨Nat.le_trans (Nat.le_add_right _ _) hcs.1, Nat.le_trans (Nat.le_add_right _ _) hcs.2⟩ hd_X11_tags ⟨Nat.le_of_ble_eq_true rfl, Nat.le_of_ble_eq_true rfl⟩ rfl hl.1 rfl (Nat.le_of_ble_eq_true rfl) dL_law_962 (fun H locs hM => ?_)
  refine lv_aload_n hx hb dL_law_965 rfl (lv_at hl 2 rfl) ?_
  refine L_mi X hM (c_tags h2) gL_law_X12_tags rfl ⟨rfl, rfl⟩ ⟨Nat.le_trans (Nat.le_add_right _ _) hcs.1, Nat.le_trans (Nat.le_add_right _ _) hcs.2⟩ hd_tags ⟨Nat.le_of_ble_eq_true rfl, Nat.le_of_ble_eq_true rfl⟩ rfl hl.1 rfl (Nat.le_of_ble_eq_true rfl) dL_law_966 (fun H locs hM => ?_)
  refine lv_icmp_eq (tgt := 1070) hx hb dL_law_969 (by decide) (fun cc1 => ?_) (fun cc1 => ?_)
  rotate_left
  · exact absurd hr.1 cc1
  clear cc1
  refine W.widen (k := cells + lKC) (n := slots + lKT) (Nat.le_add_right _ _) (Nat.le_add_right _ _) ?_
  exact kk _ H locs ls _ hr.2 hM (lv_sub hl [0, 1, 2, 3, 4] rfl)
set_option maxRecDepth 100000 in
set_option maxHeartbeats 4000000 in
theorem lc_tag {p : Program} {l : Launch} {e : Env} {s : State} {m : MethodId} {args : Array Value} {below : List Frame} {meth : Method} {c : Code} {H : Heap} {locs : List Loc} {cells slots : Nat} {Q : State → Prop} {ls : Array Slot} {D : va_G} {A0 : Nat → Prop} {y : Nat → ClassId} {S : ZS} {ob : Nat} {cJ : ClassId} {F : Nat → Int64} {h : Nat → Nat} {I : Nat → Int32} {A : Nat → Nat → Int32} {b L : Nat} {xs : Nat → Int32} {i v1 v2 v3 : Int32} {o2 o3 : Int32 × MS} {Nx : ZS → Prop} (h2 : f_tag v1 (lb v2) v3 I A = some o2) (h3 : f_thrown o2.2.1 o2.2.2 = some o3) (hf : ∀ F : Nat → Int64, g_X11_tag 1 v1 (lb v2) v3 S lKC lKT (fun v S1 => ∀ F1 : Nat → Int64, F1 0 = v.toInt64 → (lPl o3.1 o2.1.toInt64 Nx) 0 F1 S1) (fun k S1 => (k = 2 ∧ (lPl o3.1 o2.1.toInt64 Nx) 1 F S1))) (hlt : l.stackTraces = false) (X : CallFix p m c cL_law 7 s args wsL_law RL) (hM : LH D y h ob cJ A0 s H locs I A S F) (hX : va_X b L xs s s.heap ∧ b < s.heap.size ∧ ¬ A0 b) (hN : va_Nc (xN 3) (xN 1) s ∧ va_Nc (xN 4) (xN 1) s) (ha : 1 ∈ zL S ∧ zK S 1 = 11) (hs : (vp_in (i + 1) L ∧ xs (i + 1).toNatClampNeg = v1) ∧ (vp_in (i + 2) L ∧ xs (i + 2).toNatClampNeg = v2) ∧ (vp_in (i + 3) L ∧ xs (i + 3).toNatClampNeg = v3)) (hl : lv_has ls 7 [(0, .ref b), (1, .ref (zh y 1)), (2, .ref (h 0)), (3, .ref ob), (4, .int i)]) (hcs : cells + lKC ≤ room_1.cells ∧ slots + lKT ≤ room_1.slots)
    (kk : ∀ (S1 : ZS) (H : Heap) (locs : List Loc) (ls : Array Slot) (F : Nat → Int64), Nx S1 → LH D y h ob cJ A0 s H locs o3.2.1 o3.2.2 S1 F → lv_has ls 7 [(0, .ref b), (1, .ref (zh y 1)), (2, .ref (h 0)), (3, .ref ob), (4, .int i)] → W p l e room_1 s m args below meth c H locs (cells + lKC) (slots + lKT) Q (F0 m 1070 ls [])) : W p l e room_1 s m args below meth c H locs cells slots Q (F0 m 974 ls []) := by
  obtain ⟨hx, hb, -, hown, hts⟩ := id X
  replace hf := hf F
  refine lv_aload_n hx hb dL_law_974 rfl (lv_at hl 1 rfl) ?_
  refine lv_aload_n hx hb dL_law_975 rfl (lv_at hl 0 rfl) ?_
  refine lv_iload hx hb dL_law_976 (lv_at hl 4 rfl) ?_
  refine lv_iconst (v := (1 : Int32)) hx hb dL_law_978 (by decide) ?_
  refine lv_iadd hx hb dL_law_979 ?_
  refine L_sld X hM hX hs.1 dL_law_980 ?_
  refine lv_aload_n hx hb dL_law_981 rfl (lv_at hl 0 rfl) ?_
  refine lv_iload hx hb dL_law_982 (lv_at hl 4 rfl) ?_
  refine lv_iconst (v := (2 : Int32)) hx hb dL_law_984 (by decide) ?_
  refine lv_iadd hx hb dL_law_985 ?_
  refine L_sld X hM hX hs.2.1 dL_law_986 ?_
  refine lv_if_eq (tgt := 994) hx hb dL_law_987 (by decide) (fun cb => ?_) (fun cb => ?_)
  · rw [show lb v2 = 0 from if_pos cb] at hf h2
    refine lv_iconst (v := (0 : Int32)) hx hb dL_law_994 (by decide) ?_
    refine lv_aload_n hx hb dL_law_995 rfl (lv_at hl 0 rfl) ?_
    refine lv_iload hx hb dL_law_996 (lv_at hl 4 rfl) ?_
    refine lv_iconst (v := (3 : Int32)) hx hb dL_law_998 (by decide) ?_
    refine lv_iadd hx hb dL_law_999 ?_
    refine L_sld X hM hX hs.2.2 dL_law_1000 ?_
    refine lv_aload_n hx hb dL_law_1001 rfl (lv_at hl 3 rfl) ?_
    refine L_si X hM hN (c_L_tag hlt ha hf) gL_law_L_tag rfl ⟨rfl, rfl⟩ hcs hd_L_tag ⟨Nat.le_of_ble_eq_true rfl, Nat.le_of_ble_eq_true rfl⟩ rfl hl.1 rfl (Nat.le_of_ble_eq_true rfl) dL_law_1002 (fun k F1 S1 H locs hp hM => ?_)
    refine lv_istore (lv' := [(5, .int k), (0, .ref b), (1, .ref (zh y 1)), (2, .ref (h 0)), (3, .ref ob), (4, .int i)]) hx hb dL_law_1005 hl (by decide) rfl (fun ls hl => ?_)
    refine lv_aload_n hx hb dL_law_1007 rfl (lv_at hl 3 rfl) ?_
    refine lv_aload_n hx hb dL_law_1008 rfl (lv_at hl 1 rfl) ?_
    refine lv_iload hx hb dL_law_1009 (lv_at hl 5 rfl) ?_
    refine lv_iconst (v := (1 : Int32)) hx hb dL_law_1011 (by decide) ?_
    refine lv_iadd hx hb dL_law_1012 ?_
    refine L_sld X hM hX hs.1 dL_law_1013 ?_
    refine lv_aload_n hx hb dL_law_1014 rfl (lv_at hl 1 rfl) ?_
    refine lv_iload hx hb dL_law_1015 (lv_at hl 5 rfl) ?_
    refine lv_iconst (v := (2 : Int32)) hx hb dL_law_1017 (by decide) ?_
    refine lv_iadd hx hb dL_law_1018 ?_
    refine L_sld X hM hX hs.2.1 dL_law_1019 ?_
    refine lv_if_eq (tgt := 1027) hx hb dL_law_1020 (by decide) (fun cc2 => ?_) (fun cc2 => ?_)
    rotate_left
    · exact absurd cb cc2
    refine lv_iconst (v := (0 : Int32)) hx hb dL_law_1027 (by decide) ?_
    refine lv_aload_n hx hb dL_law_1028 rfl (lv_at hl 1 rfl) ?_
    refine lv_iload hx hb dL_law_1029 (lv_at hl 5 rfl) ?_
    refine lv_iconst (v := (3 : Int32)) hx hb dL_law_1031 (by decide) ?_
    refine lv_iadd hx hb dL_law_1032 ?_
    refine L_sld X hM hX hs.2.2 dL_law_1033 ?_
    refine L_mi X hM (c_tag h2) gL_law_X12_tag rfl ⟨rfl, rfl⟩ hcs hd_tag ⟨Nat.le_of_ble_eq_true rfl, Nat.le_of_ble_eq_true rfl⟩ rfl hl.1 rfl (Nat.le_of_ble_eq_true rfl) dL_law_1034 (fun H locs hM => ?_)
    refine lv_istore (lv' := [(6, .int o2.1), (5, .int k), (0, .ref b), (1, .ref (zh y 1)), (2, .ref (h 0)), (3, .ref ob), (4, .int i)]) hx hb dL_law_1037 hl (by decide) rfl (fun ls hl => ?_)
    refine lv_aload_n hx hb dL_law_1039 rfl (lv_at hl 4 rfl) ?_
    refine L_mi X hM (c_thrown h3) gL_law_X12_thrown rfl ⟨rfl, rfl⟩ hcs hd_thrown ⟨Nat.le_of_ble_eq_true rfl, Nat.le_of_ble_eq_true rfl⟩ rfl hl.1 rfl (Nat.le_of_ble_eq_true rfl) dL_law_1040 (fun H locs hM => ?_)
    refine lv_iload hx hb dL_law_1043 (lv_at hl 1 rfl) ?_
    refine lv_icmp_eq (tgt := 1050) hx hb dL_law_1045 (by decide) (fun cc1 => ?_) (fun cc1 => ?_)
    rotate_left
    · exact absurd hp.1.symm cc1
    clear cc1
    refine lv_iload hx hb dL_law_1050 (lv_at hl 1 rfl) ?_
    refine lv_if_ne (tgt := 1067) hx hb dL_law_1052 (by decide) (fun cc1 => ?_) (fun cc1 => ?_)
    · skip
      refine lv_goto (tgt := 1070) hx hb dL_law_1067 (by decide) ?_
      exact kk _ H locs ls _ hp.2.2 hM (lv_sub hl [2, 3, 4, 5, 6] rfl)
    · skip
      refine lv_aload_n hx hb dL_law_1055 rfl (lv_at hl 5 rfl) ?_
      refine lv_iconst (v := (0 : Int32)) hx hb dL_law_1056 (by decide) ?_
      refine L_lald X hM dL_law_1057 ?_
      refine lv_iload hx hb dL_law_1058 (lv_at hl 0 rfl) ?_
      refine lv_i2l (v := o2.1.toInt64) hx hb dL_law_1060 rfl ?_
      refine W.lcmp hx hb dL_law_1061 ?_
      refine lv_if_eq (tgt := 1067) hx hb dL_law_1062 (by decide) (fun cc2 => ?_) (fun cc2 => ?_)
      rotate_left
      · exact absurd (lcmp_0 (hp.2.1 cc1)) cc2
      refine lv_goto (tgt := 1070) hx hb dL_law_1067 (by decide) ?_
      exact kk _ H locs ls _ hp.2.2 hM (lv_sub hl [2, 3, 4, 5, 6] rfl)
  · rw [show lb v2 = 1 from if_neg cb] at hf h2
    refine lv_iconst (v := (1 : Int32)) hx hb dL_law_990 (by decide) ?_
    refine lv_goto (tgt := 995) hx hb dL_law_991 (by decide) ?_
    refine lv_aload_n hx hb dL_law_995 rfl (lv_at hl 0 rfl) ?_
    refine lv_iload hx hb dL_law_996 (lv_at hl 4 rfl) ?_
    refine lv_iconst (v := (3 : Int32)) hx hb dL_law_998 (by decide) ?_
    refine lv_iadd hx hb dL_law_999 ?_
    refine L_sld X hM hX hs.2.2 dL_law_1000 ?_
    refine lv_aload_n hx hb dL_law_1001 rfl (lv_at hl 3 rfl) ?_
    refine L_si X hM hN (c_L_tag hlt ha hf) gL_law_L_tag rfl ⟨rfl, rfl⟩ hcs hd_L_tag ⟨Nat.le_of_ble_eq_true rfl, Nat.le_of_ble_eq_true rfl⟩ rfl hl.1 rfl (Nat.le_of_ble_eq_true rfl) dL_law_1002 (fun k F1 S1 H locs hp hM => ?_)
    refine lv_istore (lv' := [(5, .int k), (0, .ref b), (1, .ref (zh y 1)), (2, .ref (h 0)), (3, .ref ob), (4, .int i)]) hx hb dL_law_1005 hl (by decide) rfl (fun ls hl => ?_)
    refine lv_aload_n hx hb dL_law_1007 rfl (lv_at hl 3 rfl) ?_
    refine lv_aload_n hx hb dL_law_1008 rfl (lv_at hl 1 rfl) ?_
    refine lv_iload hx hb dL_law_1009 (lv_at hl 5 rfl) ?_
    refine lv_iconst (v := (1 : Int32)) hx hb dL_law_1011 (by decide) ?_
    refine lv_iadd hx hb dL_law_1012 ?_
    refine L_sld X hM hX hs.1 dL_law_1013 ?_
    refine lv_aload_n hx hb dL_law_1014 rfl (lv_at hl 1 rfl) ?_
    refine lv_iload hx hb dL_law_1015 (lv_at hl 5 rfl) ?_
    refine lv_iconst (v := (2 : Int32)) hx hb dL_law_1017 (by decide) ?_
    refine lv_iadd hx hb dL_law_1018 ?_
    refine L_sld X hM hX hs.2.1 dL_law_1019 ?_
    refine lv_if_eq (tgt := 1027) hx hb dL_law_1020 (by decide) (fun cc2 => ?_) (fun cc2 => ?_)
    · exact absurd cc2 cb
    refine lv_iconst (v := (1 : Int32)) hx hb dL_law_1023 (by decide) ?_
    refine lv_goto (tgt := 1028) hx hb dL_law_1024 (by decide) ?_
    refine lv_aload_n hx hb dL_law_1028 rfl (lv_at hl 1 rfl) ?_
    refine lv_iload hx hb dL_law_1029 (lv_at hl 5 rfl) ?_
    refine lv_iconst (v := (3 : Int32)) hx hb dL_law_1031 (by decide) ?_
    refine lv_iadd hx hb dL_law_1032 ?_
    refine L_sld X hM hX hs.2.2 dL_law_1033 ?_
    refine L_mi X hM (c_tag h2) gL_law_X12_tag rfl ⟨rfl, rfl⟩ hcs hd_tag ⟨Nat.le_of_ble_eq_true rfl, Nat.le_of_ble_eq_true rfl⟩ rfl hl.1 rfl (Nat.le_of_ble_eq_true rfl) dL_law_1034 (fun H locs hM => ?_)
    refine lv_istore (lv' := [(6, .int o2.1), (5, .int k), (0, .ref b), (1, .ref (zh y 1)), (2, .ref (h 0)), (3, .ref ob), (4, .int i)]) hx hb dL_law_1037 hl (by decide) rfl (fun ls hl => ?_)
    refine lv_aload_n hx hb dL_law_1039 rfl (lv_at hl 4 rfl) ?_
    refine L_mi X hM (c_thrown h3) gL_law_X12_thrown rfl ⟨rfl, rfl⟩ hcs hd_thrown ⟨Nat.le_of_ble_eq_true rfl, Nat.le_of_ble_eq_true rfl⟩ rfl hl.1 rfl (Nat.le_of_ble_eq_true rfl) dL_law_1040 (fun H locs hM => ?_)
    refine lv_iload hx hb dL_law_1043 (lv_at hl 1 rfl) ?_
    refine lv_icmp_eq (tgt := 1050) hx hb dL_law_1045 (by decide) (fun cc1 => ?_) (fun cc1 => ?_)
    rotate_left
    · exact absurd hp.1.symm cc1
    clear cc1
    refine lv_iload hx hb dL_law_1050 (lv_at hl 1 rfl) ?_
    refine lv_if_ne (tgt := 1067) hx hb dL_law_1052 (by decide) (fun cc1 => ?_) (fun cc1 => ?_)
    · skip
      refine lv_goto (tgt := 1070) hx hb dL_law_1067 (by decide) ?_
      exact kk _ H locs ls _ hp.2.2 hM (lv_sub hl [2, 3, 4, 5, 6] rfl)
    · skip
      refine lv_aload_n hx hb dL_law_1055 rfl (lv_at hl 5 rfl) ?_
      refine lv_iconst (v := (0 : Int32)) hx hb dL_law_1056 (by decide) ?_
      refine L_lald X hM dL_law_1057 ?_
      refine lv_iload hx hb dL_law_1058 (lv_at hl 0 rfl) ?_
      refine lv_i2l (v := o2.1.toInt64) hx hb dL_law_1060 rfl ?_
      refine W.lcmp hx hb dL_law_1061 ?_
      refine lv_if_eq (tgt := 1067) hx hb dL_law_1062 (by decide) (fun cc2 => ?_) (fun cc2 => ?_)
      rotate_left
      · exact absurd (lcmp_0 (hp.2.1 cc1)) cc2
      refine lv_goto (tgt := 1070) hx hb dL_law_1067 (by decide) ?_
      exact kk _ H locs ls _ hp.2.2 hM (lv_sub hl [2, 3, 4, 5, 6] rfl)
