noncomputable abbrev lw (a b : Int32) : Int64 := (a.toInt64 <<< ((32 : Int32).toInt64 &&& 63)) ||| (b.toInt64 &&& (4294967295 : Int64))
noncomputable abbrev lb (a : Int32) : Int32 := if a = 0 then 0 else 1
theorem cl_L_law : Cond.constantLong RL 63 (4294967295) ∈ wsL_law := by decide +kernel
theorem lcmp_0 {x y : Int64} (h : x = y) : lg_cmp x y = 0 := by subst h; simp [lg_cmp]
noncomputable abbrev lPn (Nx : ZS → Prop) : Int32 → (Nat → Int64) → ZS → Prop := fun _ _ S1 => Nx S1
/-- what a catcher's end must hold for the law to go on: k is what the reference says of its throw, v its answer -/
noncomputable abbrev lPl (k : Int32) (v : Int64) (Nx : ZS → Prop) : Int32 → (Nat → Int64) → ZS → Prop := fun r F1 S1 => r = k ∧ (r = 0 → F1 0 = v) ∧ Nx S1
noncomputable abbrev lPe (k : Int32) (Nx : ZS → Prop) : Int32 → (Nat → Int64) → ZS → Prop := fun r _ S1 => r = k ∧ Nx S1
theorem hd_L_signs : yL_signs.cls ≠ "java/lang/invoke/MethodHandle" ∧ yL_signs.cls ≠ "java/lang/invoke/VarHandle" ∧ (parseMethodDescriptor yL_signs.desc).map (fun d => d.parameters.length) = some 3 := by decide +kernel
theorem hd_L_node : yL_node.cls ≠ "java/lang/invoke/MethodHandle" ∧ yL_node.cls ≠ "java/lang/invoke/VarHandle" ∧ (parseMethodDescriptor yL_node.desc).map (fun d => d.parameters.length) = some 4 := by decide +kernel
theorem hd_L_mark : yL_mark.cls ≠ "java/lang/invoke/MethodHandle" ∧ yL_mark.cls ≠ "java/lang/invoke/VarHandle" ∧ (parseMethodDescriptor yL_mark.desc).map (fun d => d.parameters.length) = some 4 := by decide +kernel
theorem hd_L_remark : yL_remark.cls ≠ "java/lang/invoke/MethodHandle" ∧ yL_remark.cls ≠ "java/lang/invoke/VarHandle" ∧ (parseMethodDescriptor yL_remark.desc).map (fun d => d.parameters.length) = some 4 := by decide +kernel
theorem hd_L_go : yL_go.cls ≠ "java/lang/invoke/MethodHandle" ∧ yL_go.cls ≠ "java/lang/invoke/VarHandle" ∧ (parseMethodDescriptor yL_go.desc).map (fun d => d.parameters.length) = some 2 := by decide +kernel
theorem hd_L_man : yL_man.cls ≠ "java/lang/invoke/MethodHandle" ∧ yL_man.cls ≠ "java/lang/invoke/VarHandle" ∧ (parseMethodDescriptor yL_man.desc).map (fun d => d.parameters.length) = some 3 := by decide +kernel
theorem hd_L_add : yL_add.cls ≠ "java/lang/invoke/MethodHandle" ∧ yL_add.cls ≠ "java/lang/invoke/VarHandle" ∧ (parseMethodDescriptor yL_add.desc).map (fun d => d.parameters.length) = some 3 := by decide +kernel
theorem hd_L_addMark : yL_addMark.cls ≠ "java/lang/invoke/MethodHandle" ∧ yL_addMark.cls ≠ "java/lang/invoke/VarHandle" ∧ (parseMethodDescriptor yL_addMark.desc).map (fun d => d.parameters.length) = some 3 := by decide +kernel
theorem hd_L_say : yL_say.cls ≠ "java/lang/invoke/MethodHandle" ∧ yL_say.cls ≠ "java/lang/invoke/VarHandle" ∧ (parseMethodDescriptor yL_say.desc).map (fun d => d.parameters.length) = some 2 := by decide +kernel
theorem hd_L_lead : yL_lead.cls ≠ "java/lang/invoke/MethodHandle" ∧ yL_lead.cls ≠ "java/lang/invoke/VarHandle" ∧ (parseMethodDescriptor yL_lead.desc).map (fun d => d.parameters.length) = some 2 := by decide +kernel
theorem hd_L_end : yL_end.cls ≠ "java/lang/invoke/MethodHandle" ∧ yL_end.cls ≠ "java/lang/invoke/VarHandle" ∧ (parseMethodDescriptor yL_end.desc).map (fun d => d.parameters.length) = some 2 := by decide +kernel
theorem hd_L_tag : yL_tag.cls ≠ "java/lang/invoke/MethodHandle" ∧ yL_tag.cls ≠ "java/lang/invoke/VarHandle" ∧ (parseMethodDescriptor yL_tag.desc).map (fun d => d.parameters.length) = some 5 := by decide +kernel
set_option maxRecDepth 100000 in
set_option maxHeartbeats 4000000 in
theorem lc_type {p : Program} {l : Launch} {e : Env} {s : State} {m : MethodId} {args : Array Value} {below : List Frame} {meth : Method} {c : Code} {H : Heap} {locs : List Loc} {cells slots : Nat} {Q : State → Prop} {ls : Array Slot} {D : va_G} {A0 : Nat → Prop} {y : Nat → ClassId} {S : ZS} {ob : Nat} {cJ : ClassId} {F : Nat → Int64} {h : Nat → Nat} {I : Nat → Int32} {A : Nat → Nat → Int32} {b L : Nat} {xs : Nat → Int32} {i v1 v2 v3 : Int32} {kc kt : Nat} {o2 : Int32 × MS} {Nx : ZS → Prop} (h2 : f_type (lw v1 v2) v3 I A = some o2) (hf : g_X11_type 1 (lw v1 v2) v3 S kc kt (fun r S1 => Nx S1)) (hlt : l.stackTraces = false) (X : CallFix p m c cL_law 7 s args wsL_law RL) (hM : LH D y h ob cJ A0 s H locs I A S F) (hX : va_X b L xs s s.heap ∧ b < s.heap.size ∧ ¬ A0 b) (hN : va_Nc (xN 3) (xN 1) s ∧ va_Nc (xN 4) (xN 1) s) (ha : 1 ∈ zL S ∧ zK S 1 = 11) (hs : (vp_in (i + 1) L ∧ xs (i + 1).toNatClampNeg = v1) ∧ (vp_in (i + 2) L ∧ xs (i + 2).toNatClampNeg = v2) ∧ (vp_in (i + 3) L ∧ xs (i + 3).toNatClampNeg = v3)) (hl : lv_has ls 7 [(0, .ref b), (1, .ref (zh y 1)), (2, .ref (h 0)), (3, .ref ob), (4, .int i)]) (hcs : cells + kc ≤ room_1.cells ∧ slots + kt ≤ room_1.slots)
    (kk : ∀ (S1 : ZS) (H : Heap) (locs : List Loc) (ls : Array Slot) (F : Nat → Int64), Nx S1 → LH D y h ob cJ A0 s H locs o2.2.1 o2.2.2 S1 F → lv_has ls 7 [(0, .ref b), (1, .ref (zh y 1)), (2, .ref (h 0)), (3, .ref ob), (4, .int i)] → W p l e room_1 s m args below meth c H locs (cells + kc) (slots + kt) Q (F0 m 789 ls [])) : W p l e room_1 s m args below meth c H locs cells slots Q (F0 m 144 ls []) := by
  obtain ⟨hx, hb, -, hown, hts⟩ := id X
  refine lv_aload_n hx hb dL_law_144 rfl (lv_at hl 1 rfl) ?_
  refine lv_aload_n hx hb dL_law_145 rfl (lv_at hl 0 rfl) ?_
  refine lv_iload hx hb dL_law_146 (lv_at hl 4 rfl) ?_
  refine lv_iconst (v := (1 : Int32)) hx hb dL_law_148 (by decide) ?_
  refine lv_iadd hx hb dL_law_149 ?_
  refine L_sld X hM hX hs.1 dL_law_150 ?_
  refine lv_i2l (v := v1.toInt64) hx hb dL_law_151 rfl ?_
  refine lv_bipush (v := (32 : Int32)) hx hb dL_law_152 (by decide) ?_
  refine lv_lshl (v := v1.toInt64 <<< ((32 : Int32).toInt64 &&& 63)) hx hb dL_law_154 rfl ?_
  refine lv_aload_n hx hb dL_law_155 rfl (lv_at hl 0 rfl) ?_
  refine lv_iload hx hb dL_law_156 (lv_at hl 4 rfl) ?_
  refine lv_iconst (v := (2 : Int32)) hx hb dL_law_158 (by decide) ?_
  refine lv_iadd hx hb dL_law_159 ?_
  refine L_sld X hM hX hs.2.1 dL_law_160 ?_
  refine lv_i2l (v := v2.toInt64) hx hb dL_law_161 rfl ?_
  refine lv_ldc2 (v := (4294967295 : Int64)) hx hb hown (hts _ cl_L_law) dL_law_162 ?_
  refine lv_land hx hb dL_law_165 ?_
  refine lv_lor hx hb dL_law_166 ?_
  refine lv_aload_n hx hb dL_law_167 rfl (lv_at hl 0 rfl) ?_
  refine lv_iload hx hb dL_law_168 (lv_at hl 4 rfl) ?_
  refine lv_iconst (v := (3 : Int32)) hx hb dL_law_170 (by decide) ?_
  refine lv_iadd hx hb dL_law_171 ?_
  refine L_sld X hM hX hs.2.2 dL_law_172 ?_
  refine L_cwi X hM ha (c_X11_type hf) gL_law_X11_type rfl ⟨rfl, rfl⟩ hcs hd_X11_type ⟨Nat.le_of_ble_eq_true rfl, Nat.le_of_ble_eq_true rfl⟩ rfl hl.1 rfl (Nat.le_of_ble_eq_true rfl) dL_law_173 (fun r S1 H locs hp hM => ?_)
  refine lv_pop hx hb dL_law_176 rfl ?_
  refine lv_aload_n hx hb dL_law_177 rfl (lv_at hl 2 rfl) ?_
  refine lv_aload_n hx hb dL_law_178 rfl (lv_at hl 0 rfl) ?_
  refine lv_iload hx hb dL_law_179 (lv_at hl 4 rfl) ?_
  refine lv_iconst (v := (1 : Int32)) hx hb dL_law_181 (by decide) ?_
  refine lv_iadd hx hb dL_law_182 ?_
  refine L_sld X hM hX hs.1 dL_law_183 ?_
  refine lv_i2l (v := v1.toInt64) hx hb dL_law_184 rfl ?_
  refine lv_bipush (v := (32 : Int32)) hx hb dL_law_185 (by decide) ?_
  refine lv_lshl (v := v1.toInt64 <<< ((32 : Int32).toInt64 &&& 63)) hx hb dL_law_187 rfl ?_
  refine lv_aload_n hx hb dL_law_188 rfl (lv_at hl 0 rfl) ?_
  refine lv_iload hx hb dL_law_189 (lv_at hl 4 rfl) ?_
  refine lv_iconst (v := (2 : Int32)) hx hb dL_law_191 (by decide) ?_
  refine lv_iadd hx hb dL_law_192 ?_
  refine L_sld X hM hX hs.2.1 dL_law_193 ?_
  refine lv_i2l (v := v2.toInt64) hx hb dL_law_194 rfl ?_
  refine lv_ldc2 (v := (4294967295 : Int64)) hx hb hown (hts _ cl_L_law) dL_law_195 ?_
  refine lv_land hx hb dL_law_198 ?_
  refine lv_lor hx hb dL_law_199 ?_
  refine lv_aload_n hx hb dL_law_200 rfl (lv_at hl 0 rfl) ?_
  refine lv_iload hx hb dL_law_201 (lv_at hl 4 rfl) ?_
  refine lv_iconst (v := (3 : Int32)) hx hb dL_law_203 (by decide) ?_
  refine lv_iadd hx hb dL_law_204 ?_
  refine L_sld X hM hX hs.2.2 dL_law_205 ?_
  refine L_mi X hM (c_type h2) gL_law_X12_type rfl ⟨rfl, rfl⟩ hcs hd_type ⟨Nat.le_of_ble_eq_true rfl, Nat.le_of_ble_eq_true rfl⟩ rfl hl.1 rfl (Nat.le_of_ble_eq_true rfl) dL_law_206 (fun H locs hM => ?_)
  refine lv_pop hx hb dL_law_209 rfl ?_
  refine lv_goto (tgt := 789) hx hb dL_law_210 (by decide) ?_
  exact kk _ H locs ls _ hp hM (lv_sub hl [0, 1, 2, 3, 4] rfl)
set_option maxRecDepth 100000 in
set_option maxHeartbeats 4000000 in
theorem lc_cut {p : Program} {l : Launch} {e : Env} {s : State} {m : MethodId} {args : Array Value} {below : List Frame} {meth : Method} {c : Code} {H : Heap} {locs : List Loc} {cells slots : Nat} {Q : State → Prop} {ls : Array Slot} {D : va_G} {A0 : Nat → Prop} {y : Nat → ClassId} {S : ZS} {ob : Nat} {cJ : ClassId} {F : Nat → Int64} {h : Nat → Nat} {I : Nat → Int32} {A : Nat → Nat → Int32} {b L : Nat} {xs : Nat → Int32} {i v1 v2 v3 : Int32} {kc kt : Nat} {o1 : Int32 × ZS} {o2 : Int32 × MS} {Nx : ZS → Prop} (h2 : f_cut v1 I A = some o2) (hf : f_X11_cut 1 v1 S = some o1) (hr : Nx o1.2) (hlt : l.stackTraces = false) (X : CallFix p m c cL_law 7 s args wsL_law RL) (hM : LH D y h ob cJ A0 s H locs I A S F) (hX : va_X b L xs s s.heap ∧ b < s.heap.size ∧ ¬ A0 b) (hN : va_Nc (xN 3) (xN 1) s ∧ va_Nc (xN 4) (xN 1) s) (ha : 1 ∈ zL S ∧ zK S 1 = 11) (hs : (vp_in (i + 1) L ∧ xs (i + 1).toNatClampNeg = v1) ∧ (vp_in (i + 2) L ∧ xs (i + 2).toNatClampNeg = v2) ∧ (vp_in (i + 3) L ∧ xs (i + 3).toNatClampNeg = v3)) (hl : lv_has ls 7 [(0, .ref b), (1, .ref (zh y 1)), (2, .ref (h 0)), (3, .ref ob), (4, .int i)]) (hcs : cells + kc ≤ room_1.cells ∧ slots + kt ≤ room_1.slots)
    (kk : ∀ (S1 : ZS) (H : Heap) (locs : List Loc) (ls : Array Slot) (F : Nat → Int64), Nx S1 → LH D y h ob cJ A0 s H locs o2.2.1 o2.2.2 S1 F → lv_has ls 7 [(0, .ref b), (1, .ref (zh y 1)), (2, .ref (h 0)), (3, .ref ob), (4, .int i)] → W p l e room_1 s m args below meth c H locs (cells + kc) (slots + kt) Q (F0 m 789 ls [])) : W p l e room_1 s m args below meth c H locs cells slots Q (F0 m 213 ls []) := by
  obtain ⟨hx, hb, -, hown, hts⟩ := id X
  refine lv_aload_n hx hb dL_law_213 rfl (lv_at hl 1 rfl) ?_
  refine lv_aload_n hx hb dL_law_214 rfl (lv_at hl 0 rfl) ?_
  refine lv_iload hx hb dL_law_215 (lv_at hl 4 rfl) ?_
  refine lv_iconst (v := (1 : Int32)) hx hb dL_law_217 (by decide) ?_
  refine lv_iadd hx hb dL_law_218 ?_
  refine L_sld X hM hX hs.1 dL_law_219 ?_
  refine L_czi X hM ha (c_X11_cut hf) gL_law_X11_cut rfl ⟨rfl, rfl⟩ ⟨Nat.le_trans (Nat.le_add_right _ _) hcs.1, Nat.le_trans (Nat.le_add_right _ _) hcs.2⟩ hd_X11_cut ⟨Nat.le_of_ble_eq_true rfl, Nat.le_of_ble_eq_true rfl⟩ rfl hl.1 rfl (Nat.le_of_ble_eq_true rfl) dL_law_220 (fun H locs hM => ?_)
  refine lv_pop hx hb dL_law_223 rfl ?_
  refine lv_aload_n hx hb dL_law_224 rfl (lv_at hl 2 rfl) ?_
  refine lv_aload_n hx hb dL_law_225 rfl (lv_at hl 0 rfl) ?_
  refine lv_iload hx hb dL_law_226 (lv_at hl 4 rfl) ?_
  refine lv_iconst (v := (1 : Int32)) hx hb dL_law_228 (by decide) ?_
  refine lv_iadd hx hb dL_law_229 ?_
  refine L_sld X hM hX hs.1 dL_law_230 ?_
  refine L_mi X hM (c_cut h2) gL_law_X12_cut rfl ⟨rfl, rfl⟩ ⟨Nat.le_trans (Nat.le_add_right _ _) hcs.1, Nat.le_trans (Nat.le_add_right _ _) hcs.2⟩ hd_cut ⟨Nat.le_of_ble_eq_true rfl, Nat.le_of_ble_eq_true rfl⟩ rfl hl.1 rfl (Nat.le_of_ble_eq_true rfl) dL_law_231 (fun H locs hM => ?_)
  refine lv_pop hx hb dL_law_234 rfl ?_
  refine lv_goto (tgt := 789) hx hb dL_law_235 (by decide) ?_
  refine W.widen (k := cells + kc) (n := slots + kt) (Nat.le_add_right _ _) (Nat.le_add_right _ _) ?_
  exact kk _ H locs ls _ hr hM (lv_sub hl [0, 1, 2, 3, 4] rfl)
set_option maxRecDepth 100000 in
set_option maxHeartbeats 4000000 in
theorem lc_read {p : Program} {l : Launch} {e : Env} {s : State} {m : MethodId} {args : Array Value} {below : List Frame} {meth : Method} {c : Code} {H : Heap} {locs : List Loc} {cells slots : Nat} {Q : State → Prop} {ls : Array Slot} {D : va_G} {A0 : Nat → Prop} {y : Nat → ClassId} {S : ZS} {ob : Nat} {cJ : ClassId} {F : Nat → Int64} {h : Nat → Nat} {I : Nat → Int32} {A : Nat → Nat → Int32} {b L : Nat} {xs : Nat → Int32} {i v1 v2 v3 : Int32} {kc kt : Nat} {o2 : Int32 × MS} {Nx : ZS → Prop} (h2 : f_read I A = some o2) (hf : g_X11_read 1 S kc kt (fun r S1 => Nx S1)) (hlt : l.stackTraces = false) (X : CallFix p m c cL_law 7 s args wsL_law RL) (hM : LH D y h ob cJ A0 s H locs I A S F) (hX : va_X b L xs s s.heap ∧ b < s.heap.size ∧ ¬ A0 b) (hN : va_Nc (xN 3) (xN 1) s ∧ va_Nc (xN 4) (xN 1) s) (ha : 1 ∈ zL S ∧ zK S 1 = 11) (hs : (vp_in (i + 1) L ∧ xs (i + 1).toNatClampNeg = v1) ∧ (vp_in (i + 2) L ∧ xs (i + 2).toNatClampNeg = v2) ∧ (vp_in (i + 3) L ∧ xs (i + 3).toNatClampNeg = v3)) (hl : lv_has ls 7 [(0, .ref b), (1, .ref (zh y 1)), (2, .ref (h 0)), (3, .ref ob), (4, .int i)]) (hcs : cells + kc ≤ room_1.cells ∧ slots + kt ≤ room_1.slots)
    (kk : ∀ (S1 : ZS) (H : Heap) (locs : List Loc) (ls : Array Slot) (F : Nat → Int64), Nx S1 → LH D y h ob cJ A0 s H locs o2.2.1 o2.2.2 S1 F → lv_has ls 7 [(0, .ref b), (1, .ref (zh y 1)), (2, .ref (h 0)), (3, .ref ob), (4, .int i)] → W p l e room_1 s m args below meth c H locs (cells + kc) (slots + kt) Q (F0 m 789 ls [])) : W p l e room_1 s m args below meth c H locs cells slots Q (F0 m 238 ls []) := by
  obtain ⟨hx, hb, -, hown, hts⟩ := id X
  refine lv_aload_n hx hb dL_law_238 rfl (lv_at hl 1 rfl) ?_
  refine L_cwi X hM ha (c_X11_read hf) gL_law_X11_read rfl ⟨rfl, rfl⟩ hcs hd_X11_read ⟨Nat.le_of_ble_eq_true rfl, Nat.le_of_ble_eq_true rfl⟩ rfl hl.1 rfl (Nat.le_of_ble_eq_true rfl) dL_law_239 (fun r S1 H locs hp hM => ?_)
  refine lv_pop hx hb dL_law_242 rfl ?_
  refine lv_aload_n hx hb dL_law_243 rfl (lv_at hl 2 rfl) ?_
  refine L_mi X hM (c_read h2) gL_law_X12_read rfl ⟨rfl, rfl⟩ hcs hd_read ⟨Nat.le_of_ble_eq_true rfl, Nat.le_of_ble_eq_true rfl⟩ rfl hl.1 rfl (Nat.le_of_ble_eq_true rfl) dL_law_244 (fun H locs hM => ?_)
  refine lv_pop hx hb dL_law_247 rfl ?_
  refine lv_goto (tgt := 789) hx hb dL_law_248 (by decide) ?_
  exact kk _ H locs ls _ hp hM (lv_sub hl [0, 1, 2, 3, 4] rfl)
set_option maxRecDepth 100000 in
set_option maxHeartbeats 4000000 in
theorem lc_find {p : Program} {l : Launch} {e : Env} {s : State} {m : MethodId} {args : Array Value} {below : List Frame} {meth : Method} {c : Code} {H : Heap} {locs : List Loc} {cells slots : Nat} {Q : State → Prop} {ls : Array Slot} {D : va_G} {A0 : Nat → Prop} {y : Nat → ClassId} {S : ZS} {ob : Nat} {cJ : ClassId} {F : Nat → Int64} {h : Nat → Nat} {I : Nat → Int32} {A : Nat → Nat → Int32} {b L : Nat} {xs : Nat → Int32} {i v1 v2 v3 : Int32} {kc kt : Nat} {o2 : Int32 × MS} {Nx : ZS → Prop} (h2 : f_find I A = some o2) (hf : g_X11_find 1 S kc kt (fun r S1 => Nx S1)) (hlt : l.stackTraces = false) (X : CallFix p m c cL_law 7 s args wsL_law RL) (hM : LH D y h ob cJ A0 s H locs I A S F) (hX : va_X b L xs s s.heap ∧ b < s.heap.size ∧ ¬ A0 b) (hN : va_Nc (xN 3) (xN 1) s ∧ va_Nc (xN 4) (xN 1) s) (ha : 1 ∈ zL S ∧ zK S 1 = 11) (hs : (vp_in (i + 1) L ∧ xs (i + 1).toNatClampNeg = v1) ∧ (vp_in (i + 2) L ∧ xs (i + 2).toNatClampNeg = v2) ∧ (vp_in (i + 3) L ∧ xs (i + 3).toNatClampNeg = v3)) (hl : lv_has ls 7 [(0, .ref b), (1, .ref (zh y 1)), (2, .ref (h 0)), (3, .ref ob), (4, .int i)]) (hcs : cells + kc ≤ room_1.cells ∧ slots + kt ≤ room_1.slots)
    (kk : ∀ (S1 : ZS) (H : Heap) (locs : List Loc) (ls : Array Slot) (F : Nat → Int64), Nx S1 → LH D y h ob cJ A0 s H locs o2.2.1 o2.2.2 S1 F → lv_has ls 7 [(0, .ref b), (1, .ref (zh y 1)), (2, .ref (h 0)), (3, .ref ob), (4, .int i)] → W p l e room_1 s m args below meth c H locs (cells + kc) (slots + kt) Q (F0 m 789 ls [])) : W p l e room_1 s m args below meth c H locs cells slots Q (F0 m 251 ls []) := by
  obtain ⟨hx, hb, -, hown, hts⟩ := id X
  refine lv_aload_n hx hb dL_law_251 rfl (lv_at hl 1 rfl) ?_
  refine L_cwi X hM ha (c_X11_find hf) gL_law_X11_find rfl ⟨rfl, rfl⟩ hcs hd_X11_find ⟨Nat.le_of_ble_eq_true rfl, Nat.le_of_ble_eq_true rfl⟩ rfl hl.1 rfl (Nat.le_of_ble_eq_true rfl) dL_law_252 (fun r S1 H locs hp hM => ?_)
  refine lv_pop hx hb dL_law_255 rfl ?_
  refine lv_aload_n hx hb dL_law_256 rfl (lv_at hl 2 rfl) ?_
  refine L_mi X hM (c_find h2) gL_law_X12_find rfl ⟨rfl, rfl⟩ hcs hd_find ⟨Nat.le_of_ble_eq_true rfl, Nat.le_of_ble_eq_true rfl⟩ rfl hl.1 rfl (Nat.le_of_ble_eq_true rfl) dL_law_257 (fun H locs hM => ?_)
  refine lv_pop hx hb dL_law_260 rfl ?_
  refine lv_goto (tgt := 789) hx hb dL_law_261 (by decide) ?_
  exact kk _ H locs ls _ hp hM (lv_sub hl [0, 1, 2, 3, 4] rfl)
set_option maxRecDepth 100000 in
set_option maxHeartbeats 4000000 in
theorem lc_write {p : Program} {l : Launch} {e : Env} {s : State} {m : MethodId} {args : Array Value} {below : List Frame} {meth : Method} {c : Code} {H : Heap} {locs : List Loc} {cells slots : Nat} {Q : State → Prop} {ls : Array Slot} {D : va_G} {A0 : Nat → Prop} {y : Nat → ClassId} {S : ZS} {ob : Nat} {cJ : ClassId} {F : Nat → Int64} {h : Nat → Nat} {I : Nat → Int32} {A : Nat → Nat → Int32} {b L : Nat} {xs : Nat → Int32} {i v1 v2 v3 : Int32} {kc kt : Nat} {o2 : Int32 × MS} {Nx : ZS → Prop} (h2 : f_write I A = some o2) (hf : g_X11_write 1 S kc kt (fun r S1 => Nx S1)) (hlt : l.stackTraces = false) (X : CallFix p m c cL_law 7 s args wsL_law RL) (hM : LH D y h ob cJ A0 s H locs I A S F) (hX : va_X b L xs s s.heap ∧ b < s.heap.size ∧ ¬ A0 b) (hN : va_Nc (xN 3) (xN 1) s ∧ va_Nc (xN 4) (xN 1) s) (ha : 1 ∈ zL S ∧ zK S 1 = 11) (hs : (vp_in (i + 1) L ∧ xs (i + 1).toNatClampNeg = v1) ∧ (vp_in (i + 2) L ∧ xs (i + 2).toNatClampNeg = v2) ∧ (vp_in (i + 3) L ∧ xs (i + 3).toNatClampNeg = v3)) (hl : lv_has ls 7 [(0, .ref b), (1, .ref (zh y 1)), (2, .ref (h 0)), (3, .ref ob), (4, .int i)]) (hcs : cells + kc ≤ room_1.cells ∧ slots + kt ≤ room_1.slots)
    (kk : ∀ (S1 : ZS) (H : Heap) (locs : List Loc) (ls : Array Slot) (F : Nat → Int64), Nx S1 → LH D y h ob cJ A0 s H locs o2.2.1 o2.2.2 S1 F → lv_has ls 7 [(0, .ref b), (1, .ref (zh y 1)), (2, .ref (h 0)), (3, .ref ob), (4, .int i)] → W p l e room_1 s m args below meth c H locs (cells + kc) (slots + kt) Q (F0 m 789 ls [])) : W p l e room_1 s m args below meth c H locs cells slots Q (F0 m 264 ls []) := by
  obtain ⟨hx, hb, -, hown, hts⟩ := id X
  refine lv_aload_n hx hb dL_law_264 rfl (lv_at hl 1 rfl) ?_
  refine L_cwi X hM ha (c_X11_write hf) gL_law_X11_write rfl ⟨rfl, rfl⟩ hcs hd_X11_write ⟨Nat.le_of_ble_eq_true rfl, Nat.le_of_ble_eq_true rfl⟩ rfl hl.1 rfl (Nat.le_of_ble_eq_true rfl) dL_law_265 (fun r S1 H locs hp hM => ?_)
  refine lv_pop hx hb dL_law_268 rfl ?_
  refine lv_aload_n hx hb dL_law_269 rfl (lv_at hl 2 rfl) ?_
  refine L_mi X hM (c_write h2) gL_law_X12_write rfl ⟨rfl, rfl⟩ hcs hd_write ⟨Nat.le_of_ble_eq_true rfl, Nat.le_of_ble_eq_true rfl⟩ rfl hl.1 rfl (Nat.le_of_ble_eq_true rfl) dL_law_270 (fun H locs hM => ?_)
  refine lv_pop hx hb dL_law_273 rfl ?_
  refine lv_goto (tgt := 789) hx hb dL_law_274 (by decide) ?_
  exact kk _ H locs ls _ hp hM (lv_sub hl [0, 1, 2, 3, 4] rfl)
set_option maxRecDepth 100000 in
set_option maxHeartbeats 4000000 in
theorem lc_signs {p : Program} {l : Launch} {e : Env} {s : State} {m : MethodId} {args : Array Value} {below : List Frame} {meth : Method} {c : Code} {H : Heap} {locs : List Loc} {cells slots : Nat} {Q : State → Prop} {ls : Array Slot} {D : va_G} {A0 : Nat → Prop} {y : Nat → ClassId} {S : ZS} {ob : Nat} {cJ : ClassId} {F : Nat → Int64} {h : Nat → Nat} {I : Nat → Int32} {A : Nat → Nat → Int32} {b L : Nat} {xs : Nat → Int32} {i v1 v2 v3 : Int32} {kc kt : Nat} {o2 : Int32 × MS} {Nx : ZS → Prop} (h2 : f_signs v1 I A = some o2) (hf : ∀ F : Nat → Int64, g_X11_signs 1 v1 S kc kt (fun v S1 => ∀ F1 : Nat → Int64, F1 0 = v.toInt64 → (lPn Nx) 0 F1 S1) (fun k S1 => (k = 1 ∧ (lPn Nx) 1 F S1))) (hlt : l.stackTraces = false) (X : CallFix p m c cL_law 7 s args wsL_law RL) (hM : LH D y h ob cJ A0 s H locs I A S F) (hX : va_X b L xs s s.heap ∧ b < s.heap.size ∧ ¬ A0 b) (hN : va_Nc (xN 3) (xN 1) s ∧ va_Nc (xN 4) (xN 1) s) (ha : 1 ∈ zL S ∧ zK S 1 = 11) (hs : (vp_in (i + 1) L ∧ xs (i + 1).toNatClampNeg = v1) ∧ (vp_in (i + 2) L ∧ xs (i + 2).toNatClampNeg = v2) ∧ (vp_in (i + 3) L ∧ xs (i + 3).toNatClampNeg = v3)) (hl : lv_has ls 7 [(0, .ref b), (1, .ref (zh y 1)), (2, .ref (h 0)), (3, .ref ob), (4, .int i)]) (hcs : cells + kc ≤ room_1.cells ∧ slots + kt ≤ room_1.slots)
    (kk : ∀ (S1 : ZS) (H : Heap) (locs : List Loc) (ls : Array Slot) (F : Nat → Int64), Nx S1 → LH D y h ob cJ A0 s H locs o2.2.1 o2.2.2 S1 F → lv_has ls 7 [(0, .ref b), (1, .ref (zh y 1)), (2, .ref (h 0)), (3, .ref ob), (4, .int i)] → W p l e room_1 s m args below meth c H locs (cells + kc) (slots + kt) Q (F0 m 789 ls [])) : W p l e room_1 s m args below meth c H locs cells slots Q (F0 m 277 ls []) := by
  obtain ⟨hx, hb, -, hown, hts⟩ := id X
  replace hf := hf F
  refine lv_aload_n hx hb dL_law_277 rfl (lv_at hl 1 rfl) ?_
  refine lv_aload_n hx hb dL_law_278 rfl (lv_at hl 0 rfl) ?_
  refine lv_iload hx hb dL_law_279 (lv_at hl 4 rfl) ?_
  refine lv_iconst (v := (1 : Int32)) hx hb dL_law_281 (by decide) ?_
  refine lv_iadd hx hb dL_law_282 ?_
  refine L_sld X hM hX hs.1 dL_law_283 ?_
  refine lv_aload_n hx hb dL_law_284 rfl (lv_at hl 3 rfl) ?_
  refine L_si X hM hN (c_L_signs hlt ha hf) gL_law_L_signs rfl ⟨rfl, rfl⟩ hcs hd_L_signs ⟨Nat.le_of_ble_eq_true rfl, Nat.le_of_ble_eq_true rfl⟩ rfl hl.1 rfl (Nat.le_of_ble_eq_true rfl) dL_law_285 (fun k F1 S1 H locs hp hM => ?_)
  refine lv_istore (lv' := [(5, .int k), (0, .ref b), (1, .ref (zh y 1)), (2, .ref (h 0)), (3, .ref ob), (4, .int i)]) hx hb dL_law_288 hl (by decide) rfl (fun ls hl => ?_)
  refine lv_aload_n hx hb dL_law_290 rfl (lv_at hl 3 rfl) ?_
  refine lv_aload_n hx hb dL_law_291 rfl (lv_at hl 1 rfl) ?_
  refine lv_iload hx hb dL_law_292 (lv_at hl 5 rfl) ?_
  refine lv_iconst (v := (1 : Int32)) hx hb dL_law_294 (by decide) ?_
  refine lv_iadd hx hb dL_law_295 ?_
  refine L_sld X hM hX hs.1 dL_law_296 ?_
  refine L_mi X hM (c_signs h2) gL_law_X12_signs rfl ⟨rfl, rfl⟩ hcs hd_signs ⟨Nat.le_of_ble_eq_true rfl, Nat.le_of_ble_eq_true rfl⟩ rfl hl.1 rfl (Nat.le_of_ble_eq_true rfl) dL_law_297 (fun H locs hM => ?_)
  refine lv_istore (lv' := [(6, .int o2.1), (5, .int k), (0, .ref b), (1, .ref (zh y 1)), (2, .ref (h 0)), (3, .ref ob), (4, .int i)]) hx hb dL_law_300 hl (by decide) rfl (fun ls hl => ?_)
  refine lv_goto (tgt := 789) hx hb dL_law_302 (by decide) ?_
  exact kk _ H locs ls _ hp hM (lv_sub hl [2, 3, 4, 5, 6] rfl)
set_option maxRecDepth 100000 in
set_option maxHeartbeats 4000000 in
theorem lc_out {p : Program} {l : Launch} {e : Env} {s : State} {m : MethodId} {args : Array Value} {below : List Frame} {meth : Method} {c : Code} {H : Heap} {locs : List Loc} {cells slots : Nat} {Q : State → Prop} {ls : Array Slot} {D : va_G} {A0 : Nat → Prop} {y : Nat → ClassId} {S : ZS} {ob : Nat} {cJ : ClassId} {F : Nat → Int64} {h : Nat → Nat} {I : Nat → Int32} {A : Nat → Nat → Int32} {b L : Nat} {xs : Nat → Int32} {i v1 v2 v3 : Int32} {kc kt : Nat} {o1 : Int32 × ZS} {o2 : Int32 × MS} {Nx : ZS → Prop} (h2 : f_out v1 I A = some o2) (hf : f_X11_out 1 v1 S = some o1) (hr : Nx o1.2) (hlt : l.stackTraces = false) (X : CallFix p m c cL_law 7 s args wsL_law RL) (hM : LH D y h ob cJ A0 s H locs I A S F) (hX : va_X b L xs s s.heap ∧ b < s.heap.size ∧ ¬ A0 b) (hN : va_Nc (xN 3) (xN 1) s ∧ va_Nc (xN 4) (xN 1) s) (ha : 1 ∈ zL S ∧ zK S 1 = 11) (hs : (vp_in (i + 1) L ∧ xs (i + 1).toNatClampNeg = v1) ∧ (vp_in (i + 2) L ∧ xs (i + 2).toNatClampNeg = v2) ∧ (vp_in (i + 3) L ∧ xs (i + 3).toNatClampNeg = v3)) (hl : lv_has ls 7 [(0, .ref b), (1, .ref (zh y 1)), (2, .ref (h 0)), (3, .ref ob), (4, .int i)]) (hcs : cells + kc ≤ room_1.cells ∧ slots + kt ≤ room_1.slots)
    (kk : ∀ (S1 : ZS) (H : Heap) (locs : List Loc) (ls : Array Slot) (F : Nat → Int64), Nx S1 → LH D y h ob cJ A0 s H locs o2.2.1 o2.2.2 S1 F → lv_has ls 7 [(0, .ref b), (1, .ref (zh y 1)), (2, .ref (h 0)), (3, .ref ob), (4, .int i)] → W p l e room_1 s m args below meth c H locs (cells + kc) (slots + kt) Q (F0 m 789 ls [])) : W p l e room_1 s m args below meth c H locs cells slots Q (F0 m 305 ls []) := by
  obtain ⟨hx, hb, -, hown, hts⟩ := id X
  refine lv_aload_n hx hb dL_law_305 rfl (lv_at hl 1 rfl) ?_
  refine lv_aload_n hx hb dL_law_306 rfl (lv_at hl 0 rfl) ?_
  refine lv_iload hx hb dL_law_307 (lv_at hl 4 rfl) ?_
  refine lv_iconst (v := (1 : Int32)) hx hb dL_law_309 (by decide) ?_
  refine lv_iadd hx hb dL_law_310 ?_
  refine L_sld X hM hX hs.1 dL_law_311 ?_
  refine L_czi X hM ha (c_X11_out hf) gL_law_X11_out rfl ⟨rfl, rfl⟩ ⟨Nat.le_trans (Nat.le_add_right _ _) hcs.1, Nat.le_trans (Nat.le_add_right _ _) hcs.2⟩ hd_X11_out ⟨Nat.le_of_ble_eq_true rfl, Nat.le_of_ble_eq_true rfl⟩ rfl hl.1 rfl (Nat.le_of_ble_eq_true rfl) dL_law_312 (fun H locs hM => ?_)
  refine lv_pop hx hb dL_law_315 rfl ?_
  refine lv_aload_n hx hb dL_law_316 rfl (lv_at hl 2 rfl) ?_
  refine lv_aload_n hx hb dL_law_317 rfl (lv_at hl 0 rfl) ?_
  refine lv_iload hx hb dL_law_318 (lv_at hl 4 rfl) ?_
  refine lv_iconst (v := (1 : Int32)) hx hb dL_law_320 (by decide) ?_
  refine lv_iadd hx hb dL_law_321 ?_
  refine L_sld X hM hX hs.1 dL_law_322 ?_
  refine L_mi X hM (c_out h2) gL_law_X12_out rfl ⟨rfl, rfl⟩ ⟨Nat.le_trans (Nat.le_add_right _ _) hcs.1, Nat.le_trans (Nat.le_add_right _ _) hcs.2⟩ hd_out ⟨Nat.le_of_ble_eq_true rfl, Nat.le_of_ble_eq_true rfl⟩ rfl hl.1 rfl (Nat.le_of_ble_eq_true rfl) dL_law_323 (fun H locs hM => ?_)
  refine lv_pop hx hb dL_law_326 rfl ?_
  refine lv_goto (tgt := 789) hx hb dL_law_327 (by decide) ?_
  refine W.widen (k := cells + kc) (n := slots + kt) (Nat.le_add_right _ _) (Nat.le_add_right _ _) ?_
  exact kk _ H locs ls _ hr hM (lv_sub hl [0, 1, 2, 3, 4] rfl)
set_option maxRecDepth 100000 in
set_option maxHeartbeats 4000000 in
theorem lc_nodes {p : Program} {l : Launch} {e : Env} {s : State} {m : MethodId} {args : Array Value} {below : List Frame} {meth : Method} {c : Code} {H : Heap} {locs : List Loc} {cells slots : Nat} {Q : State → Prop} {ls : Array Slot} {D : va_G} {A0 : Nat → Prop} {y : Nat → ClassId} {S : ZS} {ob : Nat} {cJ : ClassId} {F : Nat → Int64} {h : Nat → Nat} {I : Nat → Int32} {A : Nat → Nat → Int32} {b L : Nat} {xs : Nat → Int32} {i v1 v2 v3 : Int32} {kc kt : Nat} {o1 : Int32 × ZS} {o2 : Int32 × MS} {Nx : ZS → Prop} (h2 : f_nodes I A = some o2) (hf : f_X11_nodes 1 S = some o1) (hr : Nx o1.2) (hlt : l.stackTraces = false) (X : CallFix p m c cL_law 7 s args wsL_law RL) (hM : LH D y h ob cJ A0 s H locs I A S F) (hX : va_X b L xs s s.heap ∧ b < s.heap.size ∧ ¬ A0 b) (hN : va_Nc (xN 3) (xN 1) s ∧ va_Nc (xN 4) (xN 1) s) (ha : 1 ∈ zL S ∧ zK S 1 = 11) (hs : (vp_in (i + 1) L ∧ xs (i + 1).toNatClampNeg = v1) ∧ (vp_in (i + 2) L ∧ xs (i + 2).toNatClampNeg = v2) ∧ (vp_in (i + 3) L ∧ xs (i + 3).toNatClampNeg = v3)) (hl : lv_has ls 7 [(0, .ref b), (1, .ref (zh y 1)), (2, .ref (h 0)), (3, .ref ob), (4, .int i)]) (hcs : cells + kc ≤ room_1.cells ∧ slots + kt ≤ room_1.slots)
    (kk : ∀ (S1 : ZS) (H : Heap) (locs : List Loc) (ls : Array Slot) (F : Nat → Int64), Nx S1 → LH D y h ob cJ A0 s H locs o2.2.1 o2.2.2 S1 F → lv_has ls 7 [(0, .ref b), (1, .ref (zh y 1)), (2, .ref (h 0)), (3, .ref ob), (4, .int i)] → W p l e room_1 s m args below meth c H locs (cells + kc) (slots + kt) Q (F0 m 789 ls [])) : W p l e room_1 s m args below meth c H locs cells slots Q (F0 m 330 ls []) := by
  obtain ⟨hx, hb, -, hown, hts⟩ := id X
  refine lv_aload_n hx hb dL_law_330 rfl (lv_at hl 1 rfl) ?_
  refine L_czi X hM ha (c_X11_nodes hf) gL_law_X11_nodes rfl ⟨rfl, rfl⟩ ⟨Nat.le_trans (Nat.le_add_right _ _) hcs.1, Nat.le_trans (Nat.le_add_right _ _) hcs.2⟩ hd_X11_nodes ⟨Nat.le_of_ble_eq_true rfl, Nat.le_of_ble_eq_true rfl⟩ rfl hl.1 rfl (Nat.le_of_ble_eq_true rfl) dL_law_331 (fun H locs hM => ?_)
  refine lv_pop hx hb dL_law_334 rfl ?_
  refine lv_aload_n hx hb dL_law_335 rfl (lv_at hl 2 rfl) ?_
  refine L_mi X hM (c_nodes h2) gL_law_X12_nodes rfl ⟨rfl, rfl⟩ ⟨Nat.le_trans (Nat.le_add_right _ _) hcs.1, Nat.le_trans (Nat.le_add_right _ _) hcs.2⟩ hd_nodes ⟨Nat.le_of_ble_eq_true rfl, Nat.le_of_ble_eq_true rfl⟩ rfl hl.1 rfl (Nat.le_of_ble_eq_true rfl) dL_law_336 (fun H locs hM => ?_)
  refine lv_pop hx hb dL_law_339 rfl ?_
  refine lv_goto (tgt := 789) hx hb dL_law_340 (by decide) ?_
  refine W.widen (k := cells + kc) (n := slots + kt) (Nat.le_add_right _ _) (Nat.le_add_right _ _) ?_
  exact kk _ H locs ls _ hr hM (lv_sub hl [0, 1, 2, 3, 4] rfl)
set_option maxRecDepth 100000 in
set_option maxHeartbeats 4000000 in
theorem lc_node {p : Program} {l : Launch} {e : Env} {s : State} {m : MethodId} {args : Array Value} {below : List Frame} {meth : Method} {c : Code} {H : Heap} {locs : List Loc} {cells slots : Nat} {Q : State → Prop} {ls : Array Slot} {D : va_G} {A0 : Nat → Prop} {y : Nat → ClassId} {S : ZS} {ob : Nat} {cJ : ClassId} {F : Nat → Int64} {h : Nat → Nat} {I : Nat → Int32} {A : Nat → Nat → Int32} {b L : Nat} {xs : Nat → Int32} {i v1 v2 v3 : Int32} {kc kt : Nat} {o2 : Int32 × MS} {Nx : ZS → Prop} (h2 : f_node v1 v2 I A = some o2) (hf : ∀ F : Nat → Int64, g_X11_node 1 v1 v2 S kc kt (fun v S1 => ∀ F1 : Nat → Int64, F1 0 = v.toInt64 → (lPn Nx) 0 F1 S1) (fun k S1 => (k = 2 ∧ (lPn Nx) 1 F S1))) (hlt : l.stackTraces = false) (X : CallFix p m c cL_law 7 s args wsL_law RL) (hM : LH D y h ob cJ A0 s H locs I A S F) (hX : va_X b L xs s s.heap ∧ b < s.heap.size ∧ ¬ A0 b) (hN : va_Nc (xN 3) (xN 1) s ∧ va_Nc (xN 4) (xN 1) s) (ha : 1 ∈ zL S ∧ zK S 1 = 11) (hs : (vp_in (i + 1) L ∧ xs (i + 1).toNatClampNeg = v1) ∧ (vp_in (i + 2) L ∧ xs (i + 2).toNatClampNeg = v2) ∧ (vp_in (i + 3) L ∧ xs (i + 3).toNatClampNeg = v3)) (hl : lv_has ls 7 [(0, .ref b), (1, .ref (zh y 1)), (2, .ref (h 0)), (3, .ref ob), (4, .int i)]) (hcs : cells + kc ≤ room_1.cells ∧ slots + kt ≤ room_1.slots)
    (kk : ∀ (S1 : ZS) (H : Heap) (locs : List Loc) (ls : Array Slot) (F : Nat → Int64), Nx S1 → LH D y h ob cJ A0 s H locs o2.2.1 o2.2.2 S1 F → lv_has ls 7 [(0, .ref b), (1, .ref (zh y 1)), (2, .ref (h 0)), (3, .ref ob), (4, .int i)] → W p l e room_1 s m args below meth c H locs (cells + kc) (slots + kt) Q (F0 m 789 ls [])) : W p l e room_1 s m args below meth c H locs cells slots Q (F0 m 343 ls []) := by
  obtain ⟨hx, hb, -, hown, hts⟩ := id X
  replace hf := hf F
  refine lv_aload_n hx hb dL_law_343 rfl (lv_at hl 1 rfl) ?_
  refine lv_aload_n hx hb dL_law_344 rfl (lv_at hl 0 rfl) ?_
  refine lv_iload hx hb dL_law_345 (lv_at hl 4 rfl) ?_
  refine lv_iconst (v := (1 : Int32)) hx hb dL_law_347 (by decide) ?_
  refine lv_iadd hx hb dL_law_348 ?_
  refine L_sld X hM hX hs.1 dL_law_349 ?_
  refine lv_aload_n hx hb dL_law_350 rfl (lv_at hl 0 rfl) ?_
  refine lv_iload hx hb dL_law_351 (lv_at hl 4 rfl) ?_
  refine lv_iconst (v := (2 : Int32)) hx hb dL_law_353 (by decide) ?_
  refine lv_iadd hx hb dL_law_354 ?_
  refine L_sld X hM hX hs.2.1 dL_law_355 ?_
  refine lv_aload_n hx hb dL_law_356 rfl (lv_at hl 3 rfl) ?_
  refine L_si X hM hN (c_L_node hlt ha hf) gL_law_L_node rfl ⟨rfl, rfl⟩ hcs hd_L_node ⟨Nat.le_of_ble_eq_true rfl, Nat.le_of_ble_eq_true rfl⟩ rfl hl.1 rfl (Nat.le_of_ble_eq_true rfl) dL_law_357 (fun k F1 S1 H locs hp hM => ?_)
  refine lv_istore (lv' := [(5, .int k), (0, .ref b), (1, .ref (zh y 1)), (2, .ref (h 0)), (3, .ref ob), (4, .int i)]) hx hb dL_law_360 hl (by decide) rfl (fun ls hl => ?_)
  refine lv_aload_n hx hb dL_law_362 rfl (lv_at hl 3 rfl) ?_
  refine lv_aload_n hx hb dL_law_363 rfl (lv_at hl 1 rfl) ?_
  refine lv_iload hx hb dL_law_364 (lv_at hl 5 rfl) ?_
  refine lv_iconst (v := (1 : Int32)) hx hb dL_law_366 (by decide) ?_
  refine lv_iadd hx hb dL_law_367 ?_
  refine L_sld X hM hX hs.1 dL_law_368 ?_
  refine lv_aload_n hx hb dL_law_369 rfl (lv_at hl 1 rfl) ?_
  refine lv_iload hx hb dL_law_370 (lv_at hl 5 rfl) ?_
  refine lv_iconst (v := (2 : Int32)) hx hb dL_law_372 (by decide) ?_
  refine lv_iadd hx hb dL_law_373 ?_
  refine L_sld X hM hX hs.2.1 dL_law_374 ?_
  refine L_mi X hM (c_node h2) gL_law_X12_node rfl ⟨rfl, rfl⟩ hcs hd_node ⟨Nat.le_of_ble_eq_true rfl, Nat.le_of_ble_eq_true rfl⟩ rfl hl.1 rfl (Nat.le_of_ble_eq_true rfl) dL_law_375 (fun H locs hM => ?_)
  refine lv_istore (lv' := [(6, .int o2.1), (5, .int k), (0, .ref b), (1, .ref (zh y 1)), (2, .ref (h 0)), (3, .ref ob), (4, .int i)]) hx hb dL_law_378 hl (by decide) rfl (fun ls hl => ?_)
  refine lv_goto (tgt := 789) hx hb dL_law_380 (by decide) ?_
  exact kk _ H locs ls _ hp hM (lv_sub hl [2, 3, 4, 5, 6] rfl)
set_option maxRecDepth 100000 in
set_option maxHeartbeats 4000000 in
theorem lc_mark {p : Program} {l : Launch} {e : Env} {s : State} {m : MethodId} {args : Array Value} {below : List Frame} {meth : Method} {c : Code} {H : Heap} {locs : List Loc} {cells slots : Nat} {Q : State → Prop} {ls : Array Slot} {D : va_G} {A0 : Nat → Prop} {y : Nat → ClassId} {S : ZS} {ob : Nat} {cJ : ClassId} {F : Nat → Int64} {h : Nat → Nat} {I : Nat → Int32} {A : Nat → Nat → Int32} {b L : Nat} {xs : Nat → Int32} {i v1 v2 v3 : Int32} {kc kt : Nat} {o2 : Int32 × MS} {Nx : ZS → Prop} (h2 : f_mark v1 v2 I A = some o2) (hf : ∀ F : Nat → Int64, g_X11_mark 1 v1 v2 S kc kt (fun v S1 => ∀ F1 : Nat → Int64, F1 0 = v.toInt64 → (lPn Nx) 0 F1 S1) (fun k S1 => (k = 2 ∧ (lPn Nx) 1 F S1))) (hlt : l.stackTraces = false) (X : CallFix p m c cL_law 7 s args wsL_law RL) (hM : LH D y h ob cJ A0 s H locs I A S F) (hX : va_X b L xs s s.heap ∧ b < s.heap.size ∧ ¬ A0 b) (hN : va_Nc (xN 3) (xN 1) s ∧ va_Nc (xN 4) (xN 1) s) (ha : 1 ∈ zL S ∧ zK S 1 = 11) (hs : (vp_in (i + 1) L ∧ xs (i + 1).toNatClampNeg = v1) ∧ (vp_in (i + 2) L ∧ xs (i + 2).toNatClampNeg = v2) ∧ (vp_in (i + 3) L ∧ xs (i + 3).toNatClampNeg = v3)) (hl : lv_has ls 7 [(0, .ref b), (1, .ref (zh y 1)), (2, .ref (h 0)), (3, .ref ob), (4, .int i)]) (hcs : cells + kc ≤ room_1.cells ∧ slots + kt ≤ room_1.slots)
    (kk : ∀ (S1 : ZS) (H : Heap) (locs : List Loc) (ls : Array Slot) (F : Nat → Int64), Nx S1 → LH D y h ob cJ A0 s H locs o2.2.1 o2.2.2 S1 F → lv_has ls 7 [(0, .ref b), (1, .ref (zh y 1)), (2, .ref (h 0)), (3, .ref ob), (4, .int i)] → W p l e room_1 s m args below meth c H locs (cells + kc) (slots + kt) Q (F0 m 789 ls [])) : W p l e room_1 s m args below meth c H locs cells slots Q (F0 m 383 ls []) := by
  obtain ⟨hx, hb, -, hown, hts⟩ := id X
  replace hf := hf F
  refine lv_aload_n hx hb dL_law_383 rfl (lv_at hl 1 rfl) ?_
  refine lv_aload_n hx hb dL_law_384 rfl (lv_at hl 0 rfl) ?_
  refine lv_iload hx hb dL_law_385 (lv_at hl 4 rfl) ?_
  refine lv_iconst (v := (1 : Int32)) hx hb dL_law_387 (by decide) ?_
  refine lv_iadd hx hb dL_law_388 ?_
  refine L_sld X hM hX hs.1 dL_law_389 ?_
  refine lv_aload_n hx hb dL_law_390 rfl (lv_at hl 0 rfl) ?_
  refine lv_iload hx hb dL_law_391 (lv_at hl 4 rfl) ?_
  refine lv_iconst (v := (2 : Int32)) hx hb dL_law_393 (by decide) ?_
  refine lv_iadd hx hb dL_law_394 ?_
  refine L_sld X hM hX hs.2.1 dL_law_395 ?_
  refine lv_aload_n hx hb dL_law_396 rfl (lv_at hl 3 rfl) ?_
  refine L_si X hM hN (c_L_mark hlt ha hf) gL_law_L_mark rfl ⟨rfl, rfl⟩ hcs hd_L_mark ⟨Nat.le_of_ble_eq_true rfl, Nat.le_of_ble_eq_true rfl⟩ rfl hl.1 rfl (Nat.le_of_ble_eq_true rfl) dL_law_397 (fun k F1 S1 H locs hp hM => ?_)
  refine lv_istore (lv' := [(5, .int k), (0, .ref b), (1, .ref (zh y 1)), (2, .ref (h 0)), (3, .ref ob), (4, .int i)]) hx hb dL_law_400 hl (by decide) rfl (fun ls hl => ?_)
  refine lv_aload_n hx hb dL_law_402 rfl (lv_at hl 3 rfl) ?_
  refine lv_aload_n hx hb dL_law_403 rfl (lv_at hl 1 rfl) ?_
  refine lv_iload hx hb dL_law_404 (lv_at hl 5 rfl) ?_
  refine lv_iconst (v := (1 : Int32)) hx hb dL_law_406 (by decide) ?_
  refine lv_iadd hx hb dL_law_407 ?_
  refine L_sld X hM hX hs.1 dL_law_408 ?_
  refine lv_aload_n hx hb dL_law_409 rfl (lv_at hl 1 rfl) ?_
  refine lv_iload hx hb dL_law_410 (lv_at hl 5 rfl) ?_
  refine lv_iconst (v := (2 : Int32)) hx hb dL_law_412 (by decide) ?_
  refine lv_iadd hx hb dL_law_413 ?_
  refine L_sld X hM hX hs.2.1 dL_law_414 ?_
  refine L_mi X hM (c_mark h2) gL_law_X12_mark rfl ⟨rfl, rfl⟩ hcs hd_mark ⟨Nat.le_of_ble_eq_true rfl, Nat.le_of_ble_eq_true rfl⟩ rfl hl.1 rfl (Nat.le_of_ble_eq_true rfl) dL_law_415 (fun H locs hM => ?_)
  refine lv_istore (lv' := [(6, .int o2.1), (5, .int k), (0, .ref b), (1, .ref (zh y 1)), (2, .ref (h 0)), (3, .ref ob), (4, .int i)]) hx hb dL_law_418 hl (by decide) rfl (fun ls hl => ?_)
  refine lv_goto (tgt := 789) hx hb dL_law_420 (by decide) ?_
  exact kk _ H locs ls _ hp hM (lv_sub hl [2, 3, 4, 5, 6] rfl)
set_option maxRecDepth 100000 in
set_option maxHeartbeats 4000000 in
theorem lc_remark {p : Program} {l : Launch} {e : Env} {s : State} {m : MethodId} {args : Array Value} {below : List Frame} {meth : Method} {c : Code} {H : Heap} {locs : List Loc} {cells slots : Nat} {Q : State → Prop} {ls : Array Slot} {D : va_G} {A0 : Nat → Prop} {y : Nat → ClassId} {S : ZS} {ob : Nat} {cJ : ClassId} {F : Nat → Int64} {h : Nat → Nat} {I : Nat → Int32} {A : Nat → Nat → Int32} {b L : Nat} {xs : Nat → Int32} {i v1 v2 v3 : Int32} {kc kt : Nat} {o2 : Int32 × MS} {Nx : ZS → Prop} (h2 : f_remark v1 v2 I A = some o2) (hf : ∀ F : Nat → Int64, g_X11_remark 1 v1 v2 S kc kt (fun v S1 => ∀ F1 : Nat → Int64, F1 0 = v.toInt64 → (lPn Nx) 0 F1 S1) (fun k S1 => (k = 2 ∧ (lPn Nx) 1 F S1))) (hlt : l.stackTraces = false) (X : CallFix p m c cL_law 7 s args wsL_law RL) (hM : LH D y h ob cJ A0 s H locs I A S F) (hX : va_X b L xs s s.heap ∧ b < s.heap.size ∧ ¬ A0 b) (hN : va_Nc (xN 3) (xN 1) s ∧ va_Nc (xN 4) (xN 1) s) (ha : 1 ∈ zL S ∧ zK S 1 = 11) (hs : (vp_in (i + 1) L ∧ xs (i + 1).toNatClampNeg = v1) ∧ (vp_in (i + 2) L ∧ xs (i + 2).toNatClampNeg = v2) ∧ (vp_in (i + 3) L ∧ xs (i + 3).toNatClampNeg = v3)) (hl : lv_has ls 7 [(0, .ref b), (1, .ref (zh y 1)), (2, .ref (h 0)), (3, .ref ob), (4, .int i)]) (hcs : cells + kc ≤ room_1.cells ∧ slots + kt ≤ room_1.slots)
    (kk : ∀ (S1 : ZS) (H : Heap) (locs : List Loc) (ls : Array Slot) (F : Nat → Int64), Nx S1 → LH D y h ob cJ A0 s H locs o2.2.1 o2.2.2 S1 F → lv_has ls 7 [(0, .ref b), (1, .ref (zh y 1)), (2, .ref (h 0)), (3, .ref ob), (4, .int i)] → W p l e room_1 s m args below meth c H locs (cells + kc) (slots + kt) Q (F0 m 789 ls [])) : W p l e room_1 s m args below meth c H locs cells slots Q (F0 m 423 ls []) := by
  obtain ⟨hx, hb, -, hown, hts⟩ := id X
  replace hf := hf F
  refine lv_aload_n hx hb dL_law_423 rfl (lv_at hl 1 rfl) ?_
  refine lv_aload_n hx hb dL_law_424 rfl (lv_at hl 0 rfl) ?_
  refine lv_iload hx hb dL_law_425 (lv_at hl 4 rfl) ?_
  refine lv_iconst (v := (1 : Int32)) hx hb dL_law_427 (by decide) ?_
  refine lv_iadd hx hb dL_law_428 ?_
  refine L_sld X hM hX hs.1 dL_law_429 ?_
  refine lv_aload_n hx hb dL_law_430 rfl (lv_at hl 0 rfl) ?_
  refine lv_iload hx hb dL_law_431 (lv_at hl 4 rfl) ?_
  refine lv_iconst (v := (2 : Int32)) hx hb dL_law_433 (by decide) ?_
  refine lv_iadd hx hb dL_law_434 ?_
  refine L_sld X hM hX hs.2.1 dL_law_435 ?_
  refine lv_aload_n hx hb dL_law_436 rfl (lv_at hl 3 rfl) ?_
  refine L_si X hM hN (c_L_remark hlt ha hf) gL_law_L_remark rfl ⟨rfl, rfl⟩ hcs hd_L_remark ⟨Nat.le_of_ble_eq_true rfl, Nat.le_of_ble_eq_true rfl⟩ rfl hl.1 rfl (Nat.le_of_ble_eq_true rfl) dL_law_437 (fun k F1 S1 H locs hp hM => ?_)
  refine lv_istore (lv' := [(5, .int k), (0, .ref b), (1, .ref (zh y 1)), (2, .ref (h 0)), (3, .ref ob), (4, .int i)]) hx hb dL_law_440 hl (by decide) rfl (fun ls hl => ?_)
  refine lv_aload_n hx hb dL_law_442 rfl (lv_at hl 3 rfl) ?_
  refine lv_aload_n hx hb dL_law_443 rfl (lv_at hl 1 rfl) ?_
  refine lv_iload hx hb dL_law_444 (lv_at hl 5 rfl) ?_
  refine lv_iconst (v := (1 : Int32)) hx hb dL_law_446 (by decide) ?_
  refine lv_iadd hx hb dL_law_447 ?_
  refine L_sld X hM hX hs.1 dL_law_448 ?_
  refine lv_aload_n hx hb dL_law_449 rfl (lv_at hl 1 rfl) ?_
  refine lv_iload hx hb dL_law_450 (lv_at hl 5 rfl) ?_
  refine lv_iconst (v := (2 : Int32)) hx hb dL_law_452 (by decide) ?_
  refine lv_iadd hx hb dL_law_453 ?_
  refine L_sld X hM hX hs.2.1 dL_law_454 ?_
  refine L_mi X hM (c_remark h2) gL_law_X12_remark rfl ⟨rfl, rfl⟩ hcs hd_remark ⟨Nat.le_of_ble_eq_true rfl, Nat.le_of_ble_eq_true rfl⟩ rfl hl.1 rfl (Nat.le_of_ble_eq_true rfl) dL_law_455 (fun H locs hM => ?_)
  refine lv_istore (lv' := [(6, .int o2.1), (5, .int k), (0, .ref b), (1, .ref (zh y 1)), (2, .ref (h 0)), (3, .ref ob), (4, .int i)]) hx hb dL_law_458 hl (by decide) rfl (fun ls hl => ?_)
  refine lv_goto (tgt := 789) hx hb dL_law_460 (by decide) ?_
  exact kk _ H locs ls _ hp hM (lv_sub hl [2, 3, 4, 5, 6] rfl)
set_option maxRecDepth 100000 in
set_option maxHeartbeats 4000000 in
theorem lc_here {p : Program} {l : Launch} {e : Env} {s : State} {m : MethodId} {args : Array Value} {below : List Frame} {meth : Method} {c : Code} {H : Heap} {locs : List Loc} {cells slots : Nat} {Q : State → Prop} {ls : Array Slot} {D : va_G} {A0 : Nat → Prop} {y : Nat → ClassId} {S : ZS} {ob : Nat} {cJ : ClassId} {F : Nat → Int64} {h : Nat → Nat} {I : Nat → Int32} {A : Nat → Nat → Int32} {b L : Nat} {xs : Nat → Int32} {i v1 v2 v3 : Int32} {kc kt : Nat} {o1 : Int32 × ZS} {o2 : Int32 × MS} {Nx : ZS → Prop} (h2 : f_here I A = some o2) (hf : f_X11_here 1 S = some o1) (hr : Nx o1.2) (hlt : l.stackTraces = false) (X : CallFix p m c cL_law 7 s args wsL_law RL) (hM : LH D y h ob cJ A0 s H locs I A S F) (hX : va_X b L xs s s.heap ∧ b < s.heap.size ∧ ¬ A0 b) (hN : va_Nc (xN 3) (xN 1) s ∧ va_Nc (xN 4) (xN 1) s) (ha : 1 ∈ zL S ∧ zK S 1 = 11) (hs : (vp_in (i + 1) L ∧ xs (i + 1).toNatClampNeg = v1) ∧ (vp_in (i + 2) L ∧ xs (i + 2).toNatClampNeg = v2) ∧ (vp_in (i + 3) L ∧ xs (i + 3).toNatClampNeg = v3)) (hl : lv_has ls 7 [(0, .ref b), (1, .ref (zh y 1)), (2, .ref (h 0)), (3, .ref ob), (4, .int i)]) (hcs : cells + kc ≤ room_1.cells ∧ slots + kt ≤ room_1.slots)
    (kk : ∀ (S1 : ZS) (H : Heap) (locs : List Loc) (ls : Array Slot) (F : Nat → Int64), Nx S1 → LH D y h ob cJ A0 s H locs o2.2.1 o2.2.2 S1 F → lv_has ls 7 [(0, .ref b), (1, .ref (zh y 1)), (2, .ref (h 0)), (3, .ref ob), (4, .int i)] → W p l e room_1 s m args below meth c H locs (cells + kc) (slots + kt) Q (F0 m 789 ls [])) : W p l e room_1 s m args below meth c H locs cells slots Q (F0 m 463 ls []) := by
  obtain ⟨hx, hb, -, hown, hts⟩ := id X
  refine lv_aload_n hx hb dL_law_463 rfl (lv_at hl 1 rfl) ?_
  refine L_czi X hM ha (c_X11_here hf) gL_law_X11_here rfl ⟨rfl, rfl⟩ ⟨Nat.le_trans (Nat.le_add_right _ _) hcs.1, Nat.le_trans (Nat.le_add_right _ _) hcs.2⟩ hd_X11_here ⟨Nat.le_of_ble_eq_true rfl, Nat.le_of_ble_eq_true rfl⟩ rfl hl.1 rfl (Nat.le_of_ble_eq_true rfl) dL_law_464 (fun H locs hM => ?_)
  refine lv_pop hx hb dL_law_467 rfl ?_
  refine lv_aload_n hx hb dL_law_468 rfl (lv_at hl 2 rfl) ?_
  refine L_mi X hM (c_here h2) gL_law_X12_here rfl ⟨rfl, rfl⟩ ⟨Nat.le_trans (Nat.le_add_right _ _) hcs.1, Nat.le_trans (Nat.le_add_right _ _) hcs.2⟩ hd_here ⟨Nat.le_of_ble_eq_true rfl, Nat.le_of_ble_eq_true rfl⟩ rfl hl.1 rfl (Nat.le_of_ble_eq_true rfl) dL_law_469 (fun H locs hM => ?_)
  refine lv_pop hx hb dL_law_472 rfl ?_
  refine lv_goto (tgt := 789) hx hb dL_law_473 (by decide) ?_
  refine W.widen (k := cells + kc) (n := slots + kt) (Nat.le_add_right _ _) (Nat.le_add_right _ _) ?_
  exact kk _ H locs ls _ hr hM (lv_sub hl [0, 1, 2, 3, 4] rfl)
set_option maxRecDepth 100000 in
set_option maxHeartbeats 4000000 in
theorem lc_go {p : Program} {l : Launch} {e : Env} {s : State} {m : MethodId} {args : Array Value} {below : List Frame} {meth : Method} {c : Code} {H : Heap} {locs : List Loc} {cells slots : Nat} {Q : State → Prop} {ls : Array Slot} {D : va_G} {A0 : Nat → Prop} {y : Nat → ClassId} {S : ZS} {ob : Nat} {cJ : ClassId} {F : Nat → Int64} {h : Nat → Nat} {I : Nat → Int32} {A : Nat → Nat → Int32} {b L : Nat} {xs : Nat → Int32} {i v1 v2 v3 : Int32} {kc kt : Nat} {o2 : Int32 × MS} {Nx : ZS → Prop} (h2 : f_go v1 I A = some o2) (hf : ∀ F : Nat → Int64, g_X11_go 1 v1 S kc kt (fun _ S1 => (lPn Nx) 0 F S1) (fun k S1 => (k = 2 ∧ (lPn Nx) 1 F S1))) (hlt : l.stackTraces = false) (X : CallFix p m c cL_law 7 s args wsL_law RL) (hM : LH D y h ob cJ A0 s H locs I A S F) (hX : va_X b L xs s s.heap ∧ b < s.heap.size ∧ ¬ A0 b) (hN : va_Nc (xN 3) (xN 1) s ∧ va_Nc (xN 4) (xN 1) s) (ha : 1 ∈ zL S ∧ zK S 1 = 11) (hs : (vp_in (i + 1) L ∧ xs (i + 1).toNatClampNeg = v1) ∧ (vp_in (i + 2) L ∧ xs (i + 2).toNatClampNeg = v2) ∧ (vp_in (i + 3) L ∧ xs (i + 3).toNatClampNeg = v3)) (hl : lv_has ls 7 [(0, .ref b), (1, .ref (zh y 1)), (2, .ref (h 0)), (3, .ref ob), (4, .int i)]) (hcs : cells + kc ≤ room_1.cells ∧ slots + kt ≤ room_1.slots)
    (kk : ∀ (S1 : ZS) (H : Heap) (locs : List Loc) (ls : Array Slot) (F : Nat → Int64), Nx S1 → LH D y h ob cJ A0 s H locs o2.2.1 o2.2.2 S1 F → lv_has ls 7 [(0, .ref b), (1, .ref (zh y 1)), (2, .ref (h 0)), (3, .ref ob), (4, .int i)] → W p l e room_1 s m args below meth c H locs (cells + kc) (slots + kt) Q (F0 m 789 ls [])) : W p l e room_1 s m args below meth c H locs cells slots Q (F0 m 476 ls []) := by
  obtain ⟨hx, hb, -, hown, hts⟩ := id X
  replace hf := hf F
  refine lv_aload_n hx hb dL_law_476 rfl (lv_at hl 1 rfl) ?_
  refine lv_aload_n hx hb dL_law_477 rfl (lv_at hl 0 rfl) ?_
  refine lv_iload hx hb dL_law_478 (lv_at hl 4 rfl) ?_
  refine lv_iconst (v := (1 : Int32)) hx hb dL_law_480 (by decide) ?_
  refine lv_iadd hx hb dL_law_481 ?_
  refine L_sld X hM hX hs.1 dL_law_482 ?_
  refine L_si X hM hN (c_L_go hlt ha hf) gL_law_L_go rfl ⟨rfl, rfl⟩ hcs hd_L_go ⟨Nat.le_of_ble_eq_true rfl, Nat.le_of_ble_eq_true rfl⟩ rfl hl.1 rfl (Nat.le_of_ble_eq_true rfl) dL_law_483 (fun k F1 S1 H locs hp hM => ?_)
  refine lv_istore (lv' := [(5, .int k), (0, .ref b), (1, .ref (zh y 1)), (2, .ref (h 0)), (3, .ref ob), (4, .int i)]) hx hb dL_law_486 hl (by decide) rfl (fun ls hl => ?_)
  refine lv_aload_n hx hb dL_law_488 rfl (lv_at hl 3 rfl) ?_
  refine lv_aload_n hx hb dL_law_489 rfl (lv_at hl 1 rfl) ?_
  refine lv_iload hx hb dL_law_490 (lv_at hl 5 rfl) ?_
  refine lv_iconst (v := (1 : Int32)) hx hb dL_law_492 (by decide) ?_
  refine lv_iadd hx hb dL_law_493 ?_
  refine L_sld X hM hX hs.1 dL_law_494 ?_
  refine L_mv X hM (c_go h2) gL_law_X12_go rfl ⟨rfl, rfl⟩ hcs hd_go ⟨Nat.le_of_ble_eq_true rfl, Nat.le_of_ble_eq_true rfl⟩ rfl hl.1 rfl (Nat.le_of_ble_eq_true rfl) dL_law_495 (fun H locs hM => ?_)
  refine lv_goto (tgt := 789) hx hb dL_law_498 (by decide) ?_
  exact kk _ H locs ls _ hp hM (lv_sub hl [1, 2, 3, 4, 5] rfl)
set_option maxRecDepth 100000 in
set_option maxHeartbeats 4000000 in
theorem lc_man {p : Program} {l : Launch} {e : Env} {s : State} {m : MethodId} {args : Array Value} {below : List Frame} {meth : Method} {c : Code} {H : Heap} {locs : List Loc} {cells slots : Nat} {Q : State → Prop} {ls : Array Slot} {D : va_G} {A0 : Nat → Prop} {y : Nat → ClassId} {S : ZS} {ob : Nat} {cJ : ClassId} {F : Nat → Int64} {h : Nat → Nat} {I : Nat → Int32} {A : Nat → Nat → Int32} {b L : Nat} {xs : Nat → Int32} {i v1 v2 v3 : Int32} {kc kt : Nat} {o2 : Int32 × MS} {Nx : ZS → Prop} (h2 : f_man v1 I A = some o2) (hf : ∀ F : Nat → Int64, g_X11_man 1 v1 S kc kt (fun v S1 => ∀ F1 : Nat → Int64, F1 0 = v.toInt64 → (lPn Nx) 0 F1 S1) (fun k S1 => (k = 2 ∧ (lPn Nx) 1 F S1))) (hlt : l.stackTraces = false) (X : CallFix p m c cL_law 7 s args wsL_law RL) (hM : LH D y h ob cJ A0 s H locs I A S F) (hX : va_X b L xs s s.heap ∧ b < s.heap.size ∧ ¬ A0 b) (hN : va_Nc (xN 3) (xN 1) s ∧ va_Nc (xN 4) (xN 1) s) (ha : 1 ∈ zL S ∧ zK S 1 = 11) (hs : (vp_in (i + 1) L ∧ xs (i + 1).toNatClampNeg = v1) ∧ (vp_in (i + 2) L ∧ xs (i + 2).toNatClampNeg = v2) ∧ (vp_in (i + 3) L ∧ xs (i + 3).toNatClampNeg = v3)) (hl : lv_has ls 7 [(0, .ref b), (1, .ref (zh y 1)), (2, .ref (h 0)), (3, .ref ob), (4, .int i)]) (hcs : cells + kc ≤ room_1.cells ∧ slots + kt ≤ room_1.slots)
    (kk : ∀ (S1 : ZS) (H : Heap) (locs : List Loc) (ls : Array Slot) (F : Nat → Int64), Nx S1 → LH D y h ob cJ A0 s H locs o2.2.1 o2.2.2 S1 F → lv_has ls 7 [(0, .ref b), (1, .ref (zh y 1)), (2, .ref (h 0)), (3, .ref ob), (4, .int i)] → W p l e room_1 s m args below meth c H locs (cells + kc) (slots + kt) Q (F0 m 789 ls [])) : W p l e room_1 s m args below meth c H locs cells slots Q (F0 m 501 ls []) := by
  obtain ⟨hx, hb, -, hown, hts⟩ := id X
  replace hf := hf F
  refine lv_aload_n hx hb dL_law_501 rfl (lv_at hl 1 rfl) ?_
  refine lv_aload_n hx hb dL_law_502 rfl (lv_at hl 0 rfl) ?_
  refine lv_iload hx hb dL_law_503 (lv_at hl 4 rfl) ?_
  refine lv_iconst (v := (1 : Int32)) hx hb dL_law_505 (by decide) ?_
  refine lv_iadd hx hb dL_law_506 ?_
  refine L_sld X hM hX hs.1 dL_law_507 ?_
  refine lv_aload_n hx hb dL_law_508 rfl (lv_at hl 3 rfl) ?_
  refine L_si X hM hN (c_L_man hlt ha hf) gL_law_L_man rfl ⟨rfl, rfl⟩ hcs hd_L_man ⟨Nat.le_of_ble_eq_true rfl, Nat.le_of_ble_eq_true rfl⟩ rfl hl.1 rfl (Nat.le_of_ble_eq_true rfl) dL_law_509 (fun k F1 S1 H locs hp hM => ?_)
  refine lv_istore (lv' := [(5, .int k), (0, .ref b), (1, .ref (zh y 1)), (2, .ref (h 0)), (3, .ref ob), (4, .int i)]) hx hb dL_law_512 hl (by decide) rfl (fun ls hl => ?_)
  refine lv_aload_n hx hb dL_law_514 rfl (lv_at hl 3 rfl) ?_
  refine lv_aload_n hx hb dL_law_515 rfl (lv_at hl 1 rfl) ?_
  refine lv_iload hx hb dL_law_516 (lv_at hl 5 rfl) ?_
  refine lv_iconst (v := (1 : Int32)) hx hb dL_law_518 (by decide) ?_
  refine lv_iadd hx hb dL_law_519 ?_
  refine L_sld X hM hX hs.1 dL_law_520 ?_
  refine L_mi X hM (c_man h2) gL_law_X12_man rfl ⟨rfl, rfl⟩ hcs hd_man ⟨Nat.le_of_ble_eq_true rfl, Nat.le_of_ble_eq_true rfl⟩ rfl hl.1 rfl (Nat.le_of_ble_eq_true rfl) dL_law_521 (fun H locs hM => ?_)
  refine lv_istore (lv' := [(6, .int o2.1), (5, .int k), (0, .ref b), (1, .ref (zh y 1)), (2, .ref (h 0)), (3, .ref ob), (4, .int i)]) hx hb dL_law_524 hl (by decide) rfl (fun ls hl => ?_)
  refine lv_goto (tgt := 789) hx hb dL_law_526 (by decide) ?_
  exact kk _ H locs ls _ hp hM (lv_sub hl [2, 3, 4, 5, 6] rfl)
set_option maxRecDepth 100000 in
set_option maxHeartbeats 4000000 in
theorem lc_move {p : Program} {l : Launch} {e : Env} {s : State} {m : MethodId} {args : Array Value} {below : List Frame} {meth : Method} {c : Code} {H : Heap} {locs : List Loc} {cells slots : Nat} {Q : State → Prop} {ls : Array Slot} {D : va_G} {A0 : Nat → Prop} {y : Nat → ClassId} {S : ZS} {ob : Nat} {cJ : ClassId} {F : Nat → Int64} {h : Nat → Nat} {I : Nat → Int32} {A : Nat → Nat → Int32} {b L : Nat} {xs : Nat → Int32} {i v1 v2 v3 : Int32} {kc kt : Nat} {o1 : Int32 × ZS} {o2 : Int32 × MS} {Nx : ZS → Prop} (h2 : f_move v1 I A = some o2) (hf : f_X11_move 1 v1 S = some o1) (hr : Nx o1.2) (hlt : l.stackTraces = false) (X : CallFix p m c cL_law 7 s args wsL_law RL) (hM : LH D y h ob cJ A0 s H locs I A S F) (hX : va_X b L xs s s.heap ∧ b < s.heap.size ∧ ¬ A0 b) (hN : va_Nc (xN 3) (xN 1) s ∧ va_Nc (xN 4) (xN 1) s) (ha : 1 ∈ zL S ∧ zK S 1 = 11) (hs : (vp_in (i + 1) L ∧ xs (i + 1).toNatClampNeg = v1) ∧ (vp_in (i + 2) L ∧ xs (i + 2).toNatClampNeg = v2) ∧ (vp_in (i + 3) L ∧ xs (i + 3).toNatClampNeg = v3)) (hl : lv_has ls 7 [(0, .ref b), (1, .ref (zh y 1)), (2, .ref (h 0)), (3, .ref ob), (4, .int i)]) (hcs : cells + kc ≤ room_1.cells ∧ slots + kt ≤ room_1.slots)
    (kk : ∀ (S1 : ZS) (H : Heap) (locs : List Loc) (ls : Array Slot) (F : Nat → Int64), Nx S1 → LH D y h ob cJ A0 s H locs o2.2.1 o2.2.2 S1 F → lv_has ls 7 [(0, .ref b), (1, .ref (zh y 1)), (2, .ref (h 0)), (3, .ref ob), (4, .int i)] → W p l e room_1 s m args below meth c H locs (cells + kc) (slots + kt) Q (F0 m 789 ls [])) : W p l e room_1 s m args below meth c H locs cells slots Q (F0 m 529 ls []) := by
  obtain ⟨hx, hb, -, hown, hts⟩ := id X
  refine lv_aload_n hx hb dL_law_529 rfl (lv_at hl 1 rfl) ?_
  refine lv_aload_n hx hb dL_law_530 rfl (lv_at hl 0 rfl) ?_
  refine lv_iload hx hb dL_law_531 (lv_at hl 4 rfl) ?_
  refine lv_iconst (v := (1 : Int32)) hx hb dL_law_533 (by decide) ?_
  refine lv_iadd hx hb dL_law_534 ?_
  refine L_sld X hM hX hs.1 dL_law_535 ?_
  refine L_czi X hM ha (c_X11_move hf) gL_law_X11_move rfl ⟨rfl, rfl⟩ ⟨Nat.le_trans (Nat.le_add_right _ _) hcs.1, Nat.le_trans (Nat.le_add_right _ _) hcs.2⟩ hd_X11_move ⟨Nat.le_of_ble_eq_true rfl, Nat.le_of_ble_eq_true rfl⟩ rfl hl.1 rfl (Nat.le_of_ble_eq_true rfl) dL_law_536 (fun H locs hM => ?_)
  refine lv_pop hx hb dL_law_539 rfl ?_
  refine lv_aload_n hx hb dL_law_540 rfl (lv_at hl 2 rfl) ?_
  refine lv_aload_n hx hb dL_law_541 rfl (lv_at hl 0 rfl) ?_
  refine lv_iload hx hb dL_law_542 (lv_at hl 4 rfl) ?_
  refine lv_iconst (v := (1 : Int32)) hx hb dL_law_544 (by decide) ?_
  refine lv_iadd hx hb dL_law_545 ?_
  refine L_sld X hM hX hs.1 dL_law_546 ?_
  refine L_mi X hM (c_move h2) gL_law_X12_move rfl ⟨rfl, rfl⟩ ⟨Nat.le_trans (Nat.le_add_right _ _) hcs.1, Nat.le_trans (Nat.le_add_right _ _) hcs.2⟩ hd_move ⟨Nat.le_of_ble_eq_true rfl, Nat.le_of_ble_eq_true rfl⟩ rfl hl.1 rfl (Nat.le_of_ble_eq_true rfl) dL_law_547 (fun H locs hM => ?_)
  refine lv_pop hx hb dL_law_550 rfl ?_
  refine lv_goto (tgt := 789) hx hb dL_law_551 (by decide) ?_
  refine W.widen (k := cells + kc) (n := slots + kt) (Nat.le_add_right _ _) (Nat.le_add_right _ _) ?_
  exact kk _ H locs ls _ hr hM (lv_sub hl [0, 1, 2, 3, 4] rfl)
set_option maxRecDepth 100000 in
set_option maxHeartbeats 4000000 in
theorem lc_add {p : Program} {l : Launch} {e : Env} {s : State} {m : MethodId} {args : Array Value} {below : List Frame} {meth : Method} {c : Code} {H : Heap} {locs : List Loc} {cells slots : Nat} {Q : State → Prop} {ls : Array Slot} {D : va_G} {A0 : Nat → Prop} {y : Nat → ClassId} {S : ZS} {ob : Nat} {cJ : ClassId} {F : Nat → Int64} {h : Nat → Nat} {I : Nat → Int32} {A : Nat → Nat → Int32} {b L : Nat} {xs : Nat → Int32} {i v1 v2 v3 : Int32} {kc kt : Nat} {o2 : Int32 × MS} {Nx : ZS → Prop} (h2 : f_add v1 I A = some o2) (hf : ∀ F : Nat → Int64, g_X11_add 1 v1 S kc kt (fun v S1 => ∀ F1 : Nat → Int64, F1 0 = v.toInt64 → (lPn Nx) 0 F1 S1) (fun k S1 => (k = 1 ∧ (lPn Nx) 1 F S1) ∨ (k = 3 ∧ (lPn Nx) 2 F S1))) (hlt : l.stackTraces = false) (X : CallFix p m c cL_law 7 s args wsL_law RL) (hM : LH D y h ob cJ A0 s H locs I A S F) (hX : va_X b L xs s s.heap ∧ b < s.heap.size ∧ ¬ A0 b) (hN : va_Nc (xN 3) (xN 1) s ∧ va_Nc (xN 4) (xN 1) s) (ha : 1 ∈ zL S ∧ zK S 1 = 11) (hs : (vp_in (i + 1) L ∧ xs (i + 1).toNatClampNeg = v1) ∧ (vp_in (i + 2) L ∧ xs (i + 2).toNatClampNeg = v2) ∧ (vp_in (i + 3) L ∧ xs (i + 3).toNatClampNeg = v3)) (hl : lv_has ls 7 [(0, .ref b), (1, .ref (zh y 1)), (2, .ref (h 0)), (3, .ref ob), (4, .int i)]) (hcs : cells + kc ≤ room_1.cells ∧ slots + kt ≤ room_1.slots)
    (kk : ∀ (S1 : ZS) (H : Heap) (locs : List Loc) (ls : Array Slot) (F : Nat → Int64), Nx S1 → LH D y h ob cJ A0 s H locs o2.2.1 o2.2.2 S1 F → lv_has ls 7 [(0, .ref b), (1, .ref (zh y 1)), (2, .ref (h 0)), (3, .ref ob), (4, .int i)] → W p l e room_1 s m args below meth c H locs (cells + kc) (slots + kt) Q (F0 m 789 ls [])) : W p l e room_1 s m args below meth c H locs cells slots Q (F0 m 554 ls []) := by
  obtain ⟨hx, hb, -, hown, hts⟩ := id X
  replace hf := hf F
  refine lv_aload_n hx hb dL_law_554 rfl (lv_at hl 1 rfl) ?_
  refine lv_aload_n hx hb dL_law_555 rfl (lv_at hl 0 rfl) ?_
  refine lv_iload hx hb dL_law_556 (lv_at hl 4 rfl) ?_
  refine lv_iconst (v := (1 : Int32)) hx hb dL_law_558 (by decide) ?_
  refine lv_iadd hx hb dL_law_559 ?_
  refine L_sld X hM hX hs.1 dL_law_560 ?_
  refine lv_aload_n hx hb dL_law_561 rfl (lv_at hl 3 rfl) ?_
  refine L_si X hM hN (c_L_add hlt ha hf) gL_law_L_add rfl ⟨rfl, rfl⟩ hcs hd_L_add ⟨Nat.le_of_ble_eq_true rfl, Nat.le_of_ble_eq_true rfl⟩ rfl hl.1 rfl (Nat.le_of_ble_eq_true rfl) dL_law_562 (fun k F1 S1 H locs hp hM => ?_)
  refine lv_istore (lv' := [(5, .int k), (0, .ref b), (1, .ref (zh y 1)), (2, .ref (h 0)), (3, .ref ob), (4, .int i)]) hx hb dL_law_565 hl (by decide) rfl (fun ls hl => ?_)
  refine lv_aload_n hx hb dL_law_567 rfl (lv_at hl 3 rfl) ?_
  refine lv_aload_n hx hb dL_law_568 rfl (lv_at hl 1 rfl) ?_
  refine lv_iload hx hb dL_law_569 (lv_at hl 5 rfl) ?_
  refine lv_iconst (v := (1 : Int32)) hx hb dL_law_571 (by decide) ?_
  refine lv_iadd hx hb dL_law_572 ?_
  refine L_sld X hM hX hs.1 dL_law_573 ?_
  refine L_mi X hM (c_add h2) gL_law_X12_add rfl ⟨rfl, rfl⟩ hcs hd_add ⟨Nat.le_of_ble_eq_true rfl, Nat.le_of_ble_eq_true rfl⟩ rfl hl.1 rfl (Nat.le_of_ble_eq_true rfl) dL_law_574 (fun H locs hM => ?_)
  refine lv_istore (lv' := [(6, .int o2.1), (5, .int k), (0, .ref b), (1, .ref (zh y 1)), (2, .ref (h 0)), (3, .ref ob), (4, .int i)]) hx hb dL_law_577 hl (by decide) rfl (fun ls hl => ?_)
  refine lv_goto (tgt := 789) hx hb dL_law_579 (by decide) ?_
  exact kk _ H locs ls _ hp hM (lv_sub hl [2, 3, 4, 5, 6] rfl)
set_option maxRecDepth 100000 in
set_option maxHeartbeats 4000000 in
theorem lc_addMark {p : Program} {l : Launch} {e : Env} {s : State} {m : MethodId} {args : Array Value} {below : List Frame} {meth : Method} {c : Code} {H : Heap} {locs : List Loc} {cells slots : Nat} {Q : State → Prop} {ls : Array Slot} {D : va_G} {A0 : Nat → Prop} {y : Nat → ClassId} {S : ZS} {ob : Nat} {cJ : ClassId} {F : Nat → Int64} {h : Nat → Nat} {I : Nat → Int32} {A : Nat → Nat → Int32} {b L : Nat} {xs : Nat → Int32} {i v1 v2 v3 : Int32} {kc kt : Nat} {o2 : Int32 × MS} {Nx : ZS → Prop} (h2 : f_addMark v1 I A = some o2) (hf : ∀ F : Nat → Int64, g_X11_addMark 1 v1 S kc kt (fun v S1 => ∀ F1 : Nat → Int64, F1 0 = v.toInt64 → (lPn Nx) 0 F1 S1) (fun k S1 => (k = 1 ∧ (lPn Nx) 1 F S1) ∨ (k = 4 ∧ (lPn Nx) 2 F S1))) (hlt : l.stackTraces = false) (X : CallFix p m c cL_law 7 s args wsL_law RL) (hM : LH D y h ob cJ A0 s H locs I A S F) (hX : va_X b L xs s s.heap ∧ b < s.heap.size ∧ ¬ A0 b) (hN : va_Nc (xN 3) (xN 1) s ∧ va_Nc (xN 4) (xN 1) s) (ha : 1 ∈ zL S ∧ zK S 1 = 11) (hs : (vp_in (i + 1) L ∧ xs (i + 1).toNatClampNeg = v1) ∧ (vp_in (i + 2) L ∧ xs (i + 2).toNatClampNeg = v2) ∧ (vp_in (i + 3) L ∧ xs (i + 3).toNatClampNeg = v3)) (hl : lv_has ls 7 [(0, .ref b), (1, .ref (zh y 1)), (2, .ref (h 0)), (3, .ref ob), (4, .int i)]) (hcs : cells + kc ≤ room_1.cells ∧ slots + kt ≤ room_1.slots)
    (kk : ∀ (S1 : ZS) (H : Heap) (locs : List Loc) (ls : Array Slot) (F : Nat → Int64), Nx S1 → LH D y h ob cJ A0 s H locs o2.2.1 o2.2.2 S1 F → lv_has ls 7 [(0, .ref b), (1, .ref (zh y 1)), (2, .ref (h 0)), (3, .ref ob), (4, .int i)] → W p l e room_1 s m args below meth c H locs (cells + kc) (slots + kt) Q (F0 m 789 ls [])) : W p l e room_1 s m args below meth c H locs cells slots Q (F0 m 582 ls []) := by
  obtain ⟨hx, hb, -, hown, hts⟩ := id X
  replace hf := hf F
  refine lv_aload_n hx hb dL_law_582 rfl (lv_at hl 1 rfl) ?_
  refine lv_aload_n hx hb dL_law_583 rfl (lv_at hl 0 rfl) ?_
  refine lv_iload hx hb dL_law_584 (lv_at hl 4 rfl) ?_
  refine lv_iconst (v := (1 : Int32)) hx hb dL_law_586 (by decide) ?_
  refine lv_iadd hx hb dL_law_587 ?_
  refine L_sld X hM hX hs.1 dL_law_588 ?_
  refine lv_aload_n hx hb dL_law_589 rfl (lv_at hl 3 rfl) ?_
  refine L_si X hM hN (c_L_addMark hlt ha hf) gL_law_L_addMark rfl ⟨rfl, rfl⟩ hcs hd_L_addMark ⟨Nat.le_of_ble_eq_true rfl, Nat.le_of_ble_eq_true rfl⟩ rfl hl.1 rfl (Nat.le_of_ble_eq_true rfl) dL_law_590 (fun k F1 S1 H locs hp hM => ?_)
  refine lv_istore (lv' := [(5, .int k), (0, .ref b), (1, .ref (zh y 1)), (2, .ref (h 0)), (3, .ref ob), (4, .int i)]) hx hb dL_law_593 hl (by decide) rfl (fun ls hl => ?_)
  refine lv_aload_n hx hb dL_law_595 rfl (lv_at hl 3 rfl) ?_
  refine lv_aload_n hx hb dL_law_596 rfl (lv_at hl 1 rfl) ?_
  refine lv_iload hx hb dL_law_597 (lv_at hl 5 rfl) ?_
  refine lv_iconst (v := (1 : Int32)) hx hb dL_law_599 (by decide) ?_
  refine lv_iadd hx hb dL_law_600 ?_
  refine L_sld X hM hX hs.1 dL_law_601 ?_
  refine L_mi X hM (c_addMark h2) gL_law_X12_addMark rfl ⟨rfl, rfl⟩ hcs hd_addMark ⟨Nat.le_of_ble_eq_true rfl, Nat.le_of_ble_eq_true rfl⟩ rfl hl.1 rfl (Nat.le_of_ble_eq_true rfl) dL_law_602 (fun H locs hM => ?_)
  refine lv_istore (lv' := [(6, .int o2.1), (5, .int k), (0, .ref b), (1, .ref (zh y 1)), (2, .ref (h 0)), (3, .ref ob), (4, .int i)]) hx hb dL_law_605 hl (by decide) rfl (fun ls hl => ?_)
  refine lv_goto (tgt := 789) hx hb dL_law_607 (by decide) ?_
  exact kk _ H locs ls _ hp hM (lv_sub hl [2, 3, 4, 5, 6] rfl)
set_option maxRecDepth 100000 in
set_option maxHeartbeats 4000000 in
theorem lc_say {p : Program} {l : Launch} {e : Env} {s : State} {m : MethodId} {args : Array Value} {below : List Frame} {meth : Method} {c : Code} {H : Heap} {locs : List Loc} {cells slots : Nat} {Q : State → Prop} {ls : Array Slot} {D : va_G} {A0 : Nat → Prop} {y : Nat → ClassId} {S : ZS} {ob : Nat} {cJ : ClassId} {F : Nat → Int64} {h : Nat → Nat} {I : Nat → Int32} {A : Nat → Nat → Int32} {b L : Nat} {xs : Nat → Int32} {i v1 v2 v3 : Int32} {kc kt : Nat} {o2 : Int32 × MS} {Nx : ZS → Prop} (h2 : f_say I A = some o2) (hf : ∀ F : Nat → Int64, g_X11_say 1 S kc kt (fun v S1 => ∀ F1 : Nat → Int64, F1 0 = v.toInt64 → (lPn Nx) 0 F1 S1) (fun k S1 => (k = 1 ∧ (lPn Nx) 1 F S1))) (hlt : l.stackTraces = false) (X : CallFix p m c cL_law 7 s args wsL_law RL) (hM : LH D y h ob cJ A0 s H locs I A S F) (hX : va_X b L xs s s.heap ∧ b < s.heap.size ∧ ¬ A0 b) (hN : va_Nc (xN 3) (xN 1) s ∧ va_Nc (xN 4) (xN 1) s) (ha : 1 ∈ zL S ∧ zK S 1 = 11) (hs : (vp_in (i + 1) L ∧ xs (i + 1).toNatClampNeg = v1) ∧ (vp_in (i + 2) L ∧ xs (i + 2).toNatClampNeg = v2) ∧ (vp_in (i + 3) L ∧ xs (i + 3).toNatClampNeg = v3)) (hl : lv_has ls 7 [(0, .ref b), (1, .ref (zh y 1)), (2, .ref (h 0)), (3, .ref ob), (4, .int i)]) (hcs : cells + kc ≤ room_1.cells ∧ slots + kt ≤ room_1.slots)
    (kk : ∀ (S1 : ZS) (H : Heap) (locs : List Loc) (ls : Array Slot) (F : Nat → Int64), Nx S1 → LH D y h ob cJ A0 s H locs o2.2.1 o2.2.2 S1 F → lv_has ls 7 [(0, .ref b), (1, .ref (zh y 1)), (2, .ref (h 0)), (3, .ref ob), (4, .int i)] → W p l e room_1 s m args below meth c H locs (cells + kc) (slots + kt) Q (F0 m 789 ls [])) : W p l e room_1 s m args below meth c H locs cells slots Q (F0 m 610 ls []) := by
  obtain ⟨hx, hb, -, hown, hts⟩ := id X
  replace hf := hf F
  refine lv_aload_n hx hb dL_law_610 rfl (lv_at hl 1 rfl) ?_
  refine lv_aload_n hx hb dL_law_611 rfl (lv_at hl 3 rfl) ?_
  refine L_si X hM hN (c_L_say hlt ha hf) gL_law_L_say rfl ⟨rfl, rfl⟩ hcs hd_L_say ⟨Nat.le_of_ble_eq_true rfl, Nat.le_of_ble_eq_true rfl⟩ rfl hl.1 rfl (Nat.le_of_ble_eq_true rfl) dL_law_612 (fun k F1 S1 H locs hp hM => ?_)
  refine lv_istore (lv' := [(5, .int k), (0, .ref b), (1, .ref (zh y 1)), (2, .ref (h 0)), (3, .ref ob), (4, .int i)]) hx hb dL_law_615 hl (by decide) rfl (fun ls hl => ?_)
  refine lv_aload_n hx hb dL_law_617 rfl (lv_at hl 3 rfl) ?_
  refine L_mi X hM (c_say h2) gL_law_X12_say rfl ⟨rfl, rfl⟩ hcs hd_say ⟨Nat.le_of_ble_eq_true rfl, Nat.le_of_ble_eq_true rfl⟩ rfl hl.1 rfl (Nat.le_of_ble_eq_true rfl) dL_law_618 (fun H locs hM => ?_)
  refine lv_istore (lv' := [(6, .int o2.1), (5, .int k), (0, .ref b), (1, .ref (zh y 1)), (2, .ref (h 0)), (3, .ref ob), (4, .int i)]) hx hb dL_law_621 hl (by decide) rfl (fun ls hl => ?_)
  refine lv_goto (tgt := 789) hx hb dL_law_623 (by decide) ?_
  exact kk _ H locs ls _ hp hM (lv_sub hl [2, 3, 4, 5, 6] rfl)
set_option maxRecDepth 100000 in
set_option maxHeartbeats 4000000 in
theorem lc_lead {p : Program} {l : Launch} {e : Env} {s : State} {m : MethodId} {args : Array Value} {below : List Frame} {meth : Method} {c : Code} {H : Heap} {locs : List Loc} {cells slots : Nat} {Q : State → Prop} {ls : Array Slot} {D : va_G} {A0 : Nat → Prop} {y : Nat → ClassId} {S : ZS} {ob : Nat} {cJ : ClassId} {F : Nat → Int64} {h : Nat → Nat} {I : Nat → Int32} {A : Nat → Nat → Int32} {b L : Nat} {xs : Nat → Int32} {i v1 v2 v3 : Int32} {kc kt : Nat} {o2 : Int32 × MS} {Nx : ZS → Prop} (h2 : f_lead I A = some o2) (hf : ∀ F : Nat → Int64, g_X11_lead 1 S kc kt (fun v S1 => ∀ F1 : Nat → Int64, F1 0 = (if v = 0 then 0 else 1) → (lPn Nx) 0 F1 S1) (fun k S1 => (k = 4 ∧ (lPn Nx) 1 F S1))) (hlt : l.stackTraces = false) (X : CallFix p m c cL_law 7 s args wsL_law RL) (hM : LH D y h ob cJ A0 s H locs I A S F) (hX : va_X b L xs s s.heap ∧ b < s.heap.size ∧ ¬ A0 b) (hN : va_Nc (xN 3) (xN 1) s ∧ va_Nc (xN 4) (xN 1) s) (ha : 1 ∈ zL S ∧ zK S 1 = 11) (hs : (vp_in (i + 1) L ∧ xs (i + 1).toNatClampNeg = v1) ∧ (vp_in (i + 2) L ∧ xs (i + 2).toNatClampNeg = v2) ∧ (vp_in (i + 3) L ∧ xs (i + 3).toNatClampNeg = v3)) (hl : lv_has ls 7 [(0, .ref b), (1, .ref (zh y 1)), (2, .ref (h 0)), (3, .ref ob), (4, .int i)]) (hcs : cells + kc ≤ room_1.cells ∧ slots + kt ≤ room_1.slots)
    (kk : ∀ (S1 : ZS) (H : Heap) (locs : List Loc) (ls : Array Slot) (F : Nat → Int64), Nx S1 → LH D y h ob cJ A0 s H locs o2.2.1 o2.2.2 S1 F → lv_has ls 7 [(0, .ref b), (1, .ref (zh y 1)), (2, .ref (h 0)), (3, .ref ob), (4, .int i)] → W p l e room_1 s m args below meth c H locs (cells + kc) (slots + kt) Q (F0 m 789 ls [])) : W p l e room_1 s m args below meth c H locs cells slots Q (F0 m 626 ls []) := by
  obtain ⟨hx, hb, -, hown, hts⟩ := id X
  replace hf := hf F
  refine lv_aload_n hx hb dL_law_626 rfl (lv_at hl 1 rfl) ?_
  refine lv_aload_n hx hb dL_law_627 rfl (lv_at hl 3 rfl) ?_
  refine L_si X hM hN (c_L_lead hlt ha hf) gL_law_L_lead rfl ⟨rfl, rfl⟩ hcs hd_L_lead ⟨Nat.le_of_ble_eq_true rfl, Nat.le_of_ble_eq_true rfl⟩ rfl hl.1 rfl (Nat.le_of_ble_eq_true rfl) dL_law_628 (fun k F1 S1 H locs hp hM => ?_)
  refine lv_istore (lv' := [(5, .int k), (0, .ref b), (1, .ref (zh y 1)), (2, .ref (h 0)), (3, .ref ob), (4, .int i)]) hx hb dL_law_631 hl (by decide) rfl (fun ls hl => ?_)
  refine lv_aload_n hx hb dL_law_633 rfl (lv_at hl 3 rfl) ?_
  refine L_mi X hM (c_lead h2) gL_law_X12_lead rfl ⟨rfl, rfl⟩ hcs hd_lead ⟨Nat.le_of_ble_eq_true rfl, Nat.le_of_ble_eq_true rfl⟩ rfl hl.1 rfl (Nat.le_of_ble_eq_true rfl) dL_law_634 (fun H locs hM => ?_)
  refine lv_istore (lv' := [(6, .int o2.1), (5, .int k), (0, .ref b), (1, .ref (zh y 1)), (2, .ref (h 0)), (3, .ref ob), (4, .int i)]) hx hb dL_law_637 hl (by decide) rfl (fun ls hl => ?_)
  refine lv_goto (tgt := 789) hx hb dL_law_639 (by decide) ?_
  exact kk _ H locs ls _ hp hM (lv_sub hl [2, 3, 4, 5, 6] rfl)
set_option maxRecDepth 100000 in
set_option maxHeartbeats 4000000 in
theorem lc_end {p : Program} {l : Launch} {e : Env} {s : State} {m : MethodId} {args : Array Value} {below : List Frame} {meth : Method} {c : Code} {H : Heap} {locs : List Loc} {cells slots : Nat} {Q : State → Prop} {ls : Array Slot} {D : va_G} {A0 : Nat → Prop} {y : Nat → ClassId} {S : ZS} {ob : Nat} {cJ : ClassId} {F : Nat → Int64} {h : Nat → Nat} {I : Nat → Int32} {A : Nat → Nat → Int32} {b L : Nat} {xs : Nat → Int32} {i v1 v2 v3 : Int32} {kc kt : Nat} {o2 : Int32 × MS} {Nx : ZS → Prop} (h2 : f_end v1 I A = some o2) (hf : ∀ F : Nat → Int64, g_X11_end 1 v1 S kc kt (fun _ S1 => (lPn Nx) 0 F S1) (fun k S1 => (k = 1 ∧ (lPn Nx) 1 F S1))) (hlt : l.stackTraces = false) (X : CallFix p m c cL_law 7 s args wsL_law RL) (hM : LH D y h ob cJ A0 s H locs I A S F) (hX : va_X b L xs s s.heap ∧ b < s.heap.size ∧ ¬ A0 b) (hN : va_Nc (xN 3) (xN 1) s ∧ va_Nc (xN 4) (xN 1) s) (ha : 1 ∈ zL S ∧ zK S 1 = 11) (hs : (vp_in (i + 1) L ∧ xs (i + 1).toNatClampNeg = v1) ∧ (vp_in (i + 2) L ∧ xs (i + 2).toNatClampNeg = v2) ∧ (vp_in (i + 3) L ∧ xs (i + 3).toNatClampNeg = v3)) (hl : lv_has ls 7 [(0, .ref b), (1, .ref (zh y 1)), (2, .ref (h 0)), (3, .ref ob), (4, .int i)]) (hcs : cells + kc ≤ room_1.cells ∧ slots + kt ≤ room_1.slots)
    (kk : ∀ (S1 : ZS) (H : Heap) (locs : List Loc) (ls : Array Slot) (F : Nat → Int64), Nx S1 → LH D y h ob cJ A0 s H locs o2.2.1 o2.2.2 S1 F → lv_has ls 7 [(0, .ref b), (1, .ref (zh y 1)), (2, .ref (h 0)), (3, .ref ob), (4, .int i)] → W p l e room_1 s m args below meth c H locs (cells + kc) (slots + kt) Q (F0 m 789 ls [])) : W p l e room_1 s m args below meth c H locs cells slots Q (F0 m 642 ls []) := by
  obtain ⟨hx, hb, -, hown, hts⟩ := id X
  replace hf := hf F
  refine lv_aload_n hx hb dL_law_642 rfl (lv_at hl 1 rfl) ?_
  refine lv_aload_n hx hb dL_law_643 rfl (lv_at hl 0 rfl) ?_
  refine lv_iload hx hb dL_law_644 (lv_at hl 4 rfl) ?_
  refine lv_iconst (v := (1 : Int32)) hx hb dL_law_646 (by decide) ?_
  refine lv_iadd hx hb dL_law_647 ?_
  refine L_sld X hM hX hs.1 dL_law_648 ?_
  refine L_si X hM hN (c_L_end hlt ha hf) gL_law_L_end rfl ⟨rfl, rfl⟩ hcs hd_L_end ⟨Nat.le_of_ble_eq_true rfl, Nat.le_of_ble_eq_true rfl⟩ rfl hl.1 rfl (Nat.le_of_ble_eq_true rfl) dL_law_649 (fun k F1 S1 H locs hp hM => ?_)
  refine lv_istore (lv' := [(5, .int k), (0, .ref b), (1, .ref (zh y 1)), (2, .ref (h 0)), (3, .ref ob), (4, .int i)]) hx hb dL_law_652 hl (by decide) rfl (fun ls hl => ?_)
  refine lv_aload_n hx hb dL_law_654 rfl (lv_at hl 3 rfl) ?_
  refine lv_aload_n hx hb dL_law_655 rfl (lv_at hl 1 rfl) ?_
  refine lv_iload hx hb dL_law_656 (lv_at hl 5 rfl) ?_
  refine lv_iconst (v := (1 : Int32)) hx hb dL_law_658 (by decide) ?_
  refine lv_iadd hx hb dL_law_659 ?_
  refine L_sld X hM hX hs.1 dL_law_660 ?_
  refine L_mv X hM (c_end h2) gL_law_X12_end rfl ⟨rfl, rfl⟩ hcs hd_end ⟨Nat.le_of_ble_eq_true rfl, Nat.le_of_ble_eq_true rfl⟩ rfl hl.1 rfl (Nat.le_of_ble_eq_true rfl) dL_law_661 (fun H locs hM => ?_)
  refine lv_goto (tgt := 789) hx hb dL_law_664 (by decide) ?_
  exact kk _ H locs ls _ hp hM (lv_sub hl [1, 2, 3, 4, 5] rfl)
set_option maxRecDepth 100000 in
set_option maxHeartbeats 4000000 in
theorem lc_result {p : Program} {l : Launch} {e : Env} {s : State} {m : MethodId} {args : Array Value} {below : List Frame} {meth : Method} {c : Code} {H : Heap} {locs : List Loc} {cells slots : Nat} {Q : State → Prop} {ls : Array Slot} {D : va_G} {A0 : Nat → Prop} {y : Nat → ClassId} {S : ZS} {ob : Nat} {cJ : ClassId} {F : Nat → Int64} {h : Nat → Nat} {I : Nat → Int32} {A : Nat → Nat → Int32} {b L : Nat} {xs : Nat → Int32} {i v1 v2 v3 : Int32} {kc kt : Nat} {o1 : Int32 × ZS} {o2 : Int32 × MS} {Nx : ZS → Prop} (h2 : f_result I A = some o2) (hf : f_X11_result 1 S = some o1) (hr : Nx o1.2) (hlt : l.stackTraces = false) (X : CallFix p m c cL_law 7 s args wsL_law RL) (hM : LH D y h ob cJ A0 s H locs I A S F) (hX : va_X b L xs s s.heap ∧ b < s.heap.size ∧ ¬ A0 b) (hN : va_Nc (xN 3) (xN 1) s ∧ va_Nc (xN 4) (xN 1) s) (ha : 1 ∈ zL S ∧ zK S 1 = 11) (hs : (vp_in (i + 1) L ∧ xs (i + 1).toNatClampNeg = v1) ∧ (vp_in (i + 2) L ∧ xs (i + 2).toNatClampNeg = v2) ∧ (vp_in (i + 3) L ∧ xs (i + 3).toNatClampNeg = v3)) (hl : lv_has ls 7 [(0, .ref b), (1, .ref (zh y 1)), (2, .ref (h 0)), (3, .ref ob), (4, .int i)]) (hcs : cells + kc ≤ room_1.cells ∧ slots + kt ≤ room_1.slots)
    (kk : ∀ (S1 : ZS) (H : Heap) (locs : List Loc) (ls : Array Slot) (F : Nat → Int64), Nx S1 → LH D y h ob cJ A0 s H locs o2.2.1 o2.2.2 S1 F → lv_has ls 7 [(0, .ref b), (1, .ref (zh y 1)), (2, .ref (h 0)), (3, .ref ob), (4, .int i)] → W p l e room_1 s m args below meth c H locs (cells + kc) (slots + kt) Q (F0 m 789 ls [])) : W p l e room_1 s m args below meth c H locs cells slots Q (F0 m 667 ls []) := by
  obtain ⟨hx, hb, -, hown, hts⟩ := id X
  refine lv_aload_n hx hb dL_law_667 rfl (lv_at hl 1 rfl) ?_
  refine L_czi X hM ha (c_X11_result hf) gL_law_X11_result rfl ⟨rfl, rfl⟩ ⟨Nat.le_trans (Nat.le_add_right _ _) hcs.1, Nat.le_trans (Nat.le_add_right _ _) hcs.2⟩ hd_X11_result ⟨Nat.le_of_ble_eq_true rfl, Nat.le_of_ble_eq_true rfl⟩ rfl hl.1 rfl (Nat.le_of_ble_eq_true rfl) dL_law_668 (fun H locs hM => ?_)
  refine lv_pop hx hb dL_law_671 rfl ?_
  refine lv_aload_n hx hb dL_law_672 rfl (lv_at hl 2 rfl) ?_
  refine L_mi X hM (c_result h2) gL_law_X12_result rfl ⟨rfl, rfl⟩ ⟨Nat.le_trans (Nat.le_add_right _ _) hcs.1, Nat.le_trans (Nat.le_add_right _ _) hcs.2⟩ hd_result ⟨Nat.le_of_ble_eq_true rfl, Nat.le_of_ble_eq_true rfl⟩ rfl hl.1 rfl (Nat.le_of_ble_eq_true rfl) dL_law_673 (fun H locs hM => ?_)
  refine lv_pop hx hb dL_law_676 rfl ?_
  refine lv_goto (tgt := 789) hx hb dL_law_677 (by decide) ?_
  refine W.widen (k := cells + kc) (n := slots + kt) (Nat.le_add_right _ _) (Nat.le_add_right _ _) ?_
  exact kk _ H locs ls _ hr hM (lv_sub hl [0, 1, 2, 3, 4] rfl)
set_option maxRecDepth 100000 in
set_option maxHeartbeats 4000000 in
theorem lc_tags {p : Program} {l : Launch} {e : Env} {s : State} {m : MethodId} {args : Array Value} {below : List Frame} {meth : Method} {c : Code} {H : Heap} {locs : List Loc} {cells slots : Nat} {Q : State → Prop} {ls : Array Slot} {D : va_G} {A0 : Nat → Prop} {y : Nat → ClassId} {S : ZS} {ob : Nat} {cJ : ClassId} {F : Nat → Int64} {h : Nat → Nat} {I : Nat → Int32} {A : Nat → Nat → Int32} {b L : Nat} {xs : Nat → Int32} {i v1 v2 v3 : Int32} {kc kt : Nat} {o1 : Int32 × ZS} {o2 : Int32 × MS} {Nx : ZS → Prop} (h2 : f_tags I A = some o2) (hf : f_X11_tags 1 S = some o1) (hr : Nx o1.2) (hlt : l.stackTraces = false) (X : CallFix p m c cL_law 7 s args wsL_law RL) (hM : LH D y h ob cJ A0 s H locs I A S F) (hX : va_X b L xs s s.heap ∧ b < s.heap.size ∧ ¬ A0 b) (hN : va_Nc (xN 3) (xN 1) s ∧ va_Nc (xN 4) (xN 1) s) (ha : 1 ∈ zL S ∧ zK S 1 = 11) (hs : (vp_in (i + 1) L ∧ xs (i + 1).toNatClampNeg = v1) ∧ (vp_in (i + 2) L ∧ xs (i + 2).toNatClampNeg = v2) ∧ (vp_in (i + 3) L ∧ xs (i + 3).toNatClampNeg = v3)) (hl : lv_has ls 7 [(0, .ref b), (1, .ref (zh y 1)), (2, .ref (h 0)), (3, .ref ob), (4, .int i)]) (hcs : cells + kc ≤ room_1.cells ∧ slots + kt ≤ room_1.slots)
    (kk : ∀ (S1 : ZS) (H : Heap) (locs : List Loc) (ls : Array Slot) (F : Nat → Int64), Nx S1 → LH D y h ob cJ A0 s H locs o2.2.1 o2.2.2 S1 F → lv_has ls 7 [(0, .ref b), (1, .ref (zh y 1)), (2, .ref (h 0)), (3, .ref ob), (4, .int i)] → W p l e room_1 s m args below meth c H locs (cells + kc) (slots + kt) Q (F0 m 789 ls [])) : W p l e room_1 s m args below meth c H locs cells slots Q (F0 m 680 ls []) := by
  obtain ⟨hx, hb, -, hown, hts⟩ := id X
  refine lv_aload_n hx hb dL_law_680 rfl (lv_at hl 1 rfl) ?_
  refine L_czi X hM ha (c_X11_tags hf) gL_law_X11_tags rfl ⟨rfl, rfl⟩ ⟨Nat.le_trans (Nat.le_add_right _ _) hcs.1, Nat.le_trans (Nat.le_add_right _ _) hcs.2⟩ hd_X11_tags ⟨Nat.le_of_ble_eq_true rfl, Nat.le_of_ble_eq_true rfl⟩ rfl hl.1 rfl (Nat.le_of_ble_eq_true rfl) dL_law_681 (fun H locs hM => ?_)
  refine lv_pop hx hb dL_law_684 rfl ?_
  refine lv_aload_n hx hb dL_law_685 rfl (lv_at hl 2 rfl) ?_
  refine L_mi X hM (c_tags h2) gL_law_X12_tags rfl ⟨rfl, rfl⟩ ⟨Nat.le_trans (Nat.le_add_right _ _) hcs.1, Nat.le_trans (Nat.le_add_right _ _) hcs.2⟩ hd_tags ⟨Nat.le_of_ble_eq_true rfl, Nat.le_of_ble_eq_true rfl⟩ rfl hl.1 rfl (Nat.le_of_ble_eq_true rfl) dL_law_686 (fun H locs hM => ?_)
  refine lv_pop hx hb dL_law_689 rfl ?_
  refine lv_goto (tgt := 789) hx hb dL_law_690 (by decide) ?_
  refine W.widen (k := cells + kc) (n := slots + kt) (Nat.le_add_right _ _) (Nat.le_add_right _ _) ?_
  exact kk _ H locs ls _ hr hM (lv_sub hl [0, 1, 2, 3, 4] rfl)
set_option maxRecDepth 100000 in
set_option maxHeartbeats 4000000 in
theorem lc_tag {p : Program} {l : Launch} {e : Env} {s : State} {m : MethodId} {args : Array Value} {below : List Frame} {meth : Method} {c : Code} {H : Heap} {locs : List Loc} {cells slots : Nat} {Q : State → Prop} {ls : Array Slot} {D : va_G} {A0 : Nat → Prop} {y : Nat → ClassId} {S : ZS} {ob : Nat} {cJ : ClassId} {F : Nat → Int64} {h : Nat → Nat} {I : Nat → Int32} {A : Nat → Nat → Int32} {b L : Nat} {xs : Nat → Int32} {i v1 v2 v3 : Int32} {kc kt : Nat} {o2 o3 : Int32 × MS} {Nx : ZS → Prop} (h2 : f_tag v1 (lb v2) v3 I A = some o2) (h3 : f_thrown o2.2.1 o2.2.2 = some o3) (hf : ∀ F : Nat → Int64, g_X11_tag 1 v1 (lb v2) v3 S kc kt (fun v S1 => ∀ F1 : Nat → Int64, F1 0 = v.toInt64 → (lPl o3.1 o2.1.toInt64 Nx) 0 F1 S1) (fun k S1 => (k = 2 ∧ (lPl o3.1 o2.1.toInt64 Nx) 1 F S1))) (hlt : l.stackTraces = false) (X : CallFix p m c cL_law 7 s args wsL_law RL) (hM : LH D y h ob cJ A0 s H locs I A S F) (hX : va_X b L xs s s.heap ∧ b < s.heap.size ∧ ¬ A0 b) (hN : va_Nc (xN 3) (xN 1) s ∧ va_Nc (xN 4) (xN 1) s) (ha : 1 ∈ zL S ∧ zK S 1 = 11) (hs : (vp_in (i + 1) L ∧ xs (i + 1).toNatClampNeg = v1) ∧ (vp_in (i + 2) L ∧ xs (i + 2).toNatClampNeg = v2) ∧ (vp_in (i + 3) L ∧ xs (i + 3).toNatClampNeg = v3)) (hl : lv_has ls 7 [(0, .ref b), (1, .ref (zh y 1)), (2, .ref (h 0)), (3, .ref ob), (4, .int i)]) (hcs : cells + kc ≤ room_1.cells ∧ slots + kt ≤ room_1.slots)
    (kk : ∀ (S1 : ZS) (H : Heap) (locs : List Loc) (ls : Array Slot) (F : Nat → Int64), Nx S1 → LH D y h ob cJ A0 s H locs o3.2.1 o3.2.2 S1 F → lv_has ls 7 [(0, .ref b), (1, .ref (zh y 1)), (2, .ref (h 0)), (3, .ref ob), (4, .int i)] → W p l e room_1 s m args below meth c H locs (cells + kc) (slots + kt) Q (F0 m 789 ls [])) : W p l e room_1 s m args below meth c H locs cells slots Q (F0 m 693 ls []) := by
  obtain ⟨hx, hb, -, hown, hts⟩ := id X
  replace hf := hf F
  refine lv_aload_n hx hb dL_law_693 rfl (lv_at hl 1 rfl) ?_
  refine lv_aload_n hx hb dL_law_694 rfl (lv_at hl 0 rfl) ?_
  refine lv_iload hx hb dL_law_695 (lv_at hl 4 rfl) ?_
  refine lv_iconst (v := (1 : Int32)) hx hb dL_law_697 (by decide) ?_
  refine lv_iadd hx hb dL_law_698 ?_
  refine L_sld X hM hX hs.1 dL_law_699 ?_
  refine lv_aload_n hx hb dL_law_700 rfl (lv_at hl 0 rfl) ?_
  refine lv_iload hx hb dL_law_701 (lv_at hl 4 rfl) ?_
  refine lv_iconst (v := (2 : Int32)) hx hb dL_law_703 (by decide) ?_
  refine lv_iadd hx hb dL_law_704 ?_
  refine L_sld X hM hX hs.2.1 dL_law_705 ?_
  refine lv_if_eq (tgt := 713) hx hb dL_law_706 (by decide) (fun cb => ?_) (fun cb => ?_)
  · rw [show lb v2 = 0 from if_pos cb] at hf h2
    refine lv_iconst (v := (0 : Int32)) hx hb dL_law_713 (by decide) ?_
    refine lv_aload_n hx hb dL_law_714 rfl (lv_at hl 0 rfl) ?_
    refine lv_iload hx hb dL_law_715 (lv_at hl 4 rfl) ?_
    refine lv_iconst (v := (3 : Int32)) hx hb dL_law_717 (by decide) ?_
    refine lv_iadd hx hb dL_law_718 ?_
    refine L_sld X hM hX hs.2.2 dL_law_719 ?_
    refine lv_aload_n hx hb dL_law_720 rfl (lv_at hl 3 rfl) ?_
    refine L_si X hM hN (c_L_tag hlt ha hf) gL_law_L_tag rfl ⟨rfl, rfl⟩ hcs hd_L_tag ⟨Nat.le_of_ble_eq_true rfl, Nat.le_of_ble_eq_true rfl⟩ rfl hl.1 rfl (Nat.le_of_ble_eq_true rfl) dL_law_721 (fun k F1 S1 H locs hp hM => ?_)
    refine lv_istore (lv' := [(5, .int k), (0, .ref b), (1, .ref (zh y 1)), (2, .ref (h 0)), (3, .ref ob), (4, .int i)]) hx hb dL_law_724 hl (by decide) rfl (fun ls hl => ?_)
    refine lv_aload_n hx hb dL_law_726 rfl (lv_at hl 3 rfl) ?_
    refine lv_aload_n hx hb dL_law_727 rfl (lv_at hl 1 rfl) ?_
    refine lv_iload hx hb dL_law_728 (lv_at hl 5 rfl) ?_
    refine lv_iconst (v := (1 : Int32)) hx hb dL_law_730 (by decide) ?_
    refine lv_iadd hx hb dL_law_731 ?_
    refine L_sld X hM hX hs.1 dL_law_732 ?_
    refine lv_aload_n hx hb dL_law_733 rfl (lv_at hl 1 rfl) ?_
    refine lv_iload hx hb dL_law_734 (lv_at hl 5 rfl) ?_
    refine lv_iconst (v := (2 : Int32)) hx hb dL_law_736 (by decide) ?_
    refine lv_iadd hx hb dL_law_737 ?_
    refine L_sld X hM hX hs.2.1 dL_law_738 ?_
    refine lv_if_eq (tgt := 746) hx hb dL_law_739 (by decide) (fun cc2 => ?_) (fun cc2 => ?_)
    rotate_left
    · exact absurd cb cc2
    refine lv_iconst (v := (0 : Int32)) hx hb dL_law_746 (by decide) ?_
    refine lv_aload_n hx hb dL_law_747 rfl (lv_at hl 1 rfl) ?_
    refine lv_iload hx hb dL_law_748 (lv_at hl 5 rfl) ?_
    refine lv_iconst (v := (3 : Int32)) hx hb dL_law_750 (by decide) ?_
    refine lv_iadd hx hb dL_law_751 ?_
    refine L_sld X hM hX hs.2.2 dL_law_752 ?_
    refine L_mi X hM (c_tag h2) gL_law_X12_tag rfl ⟨rfl, rfl⟩ hcs hd_tag ⟨Nat.le_of_ble_eq_true rfl, Nat.le_of_ble_eq_true rfl⟩ rfl hl.1 rfl (Nat.le_of_ble_eq_true rfl) dL_law_753 (fun H locs hM => ?_)
    refine lv_istore (lv' := [(6, .int o2.1), (5, .int k), (0, .ref b), (1, .ref (zh y 1)), (2, .ref (h 0)), (3, .ref ob), (4, .int i)]) hx hb dL_law_756 hl (by decide) rfl (fun ls hl => ?_)
    refine lv_aload_n hx hb dL_law_758 rfl (lv_at hl 4 rfl) ?_
    refine L_mi X hM (c_thrown h3) gL_law_X12_thrown rfl ⟨rfl, rfl⟩ hcs hd_thrown ⟨Nat.le_of_ble_eq_true rfl, Nat.le_of_ble_eq_true rfl⟩ rfl hl.1 rfl (Nat.le_of_ble_eq_true rfl) dL_law_759 (fun H locs hM => ?_)
    refine lv_iload hx hb dL_law_762 (lv_at hl 1 rfl) ?_
    refine lv_icmp_eq (tgt := 769) hx hb dL_law_764 (by decide) (fun cc1 => ?_) (fun cc1 => ?_)
    rotate_left
    · exact absurd hp.1.symm cc1
    clear cc1
    refine lv_iload hx hb dL_law_769 (lv_at hl 1 rfl) ?_
    refine lv_if_ne (tgt := 786) hx hb dL_law_771 (by decide) (fun cc1 => ?_) (fun cc1 => ?_)
    · skip
      refine lv_goto (tgt := 789) hx hb dL_law_786 (by decide) ?_
      exact kk _ H locs ls _ hp.2.2 hM (lv_sub hl [2, 3, 4, 5, 6] rfl)
    · skip
      refine lv_aload_n hx hb dL_law_774 rfl (lv_at hl 5 rfl) ?_
      refine lv_iconst (v := (0 : Int32)) hx hb dL_law_775 (by decide) ?_
      refine L_lald X hM dL_law_776 ?_
      refine lv_iload hx hb dL_law_777 (lv_at hl 0 rfl) ?_
      refine lv_i2l (v := o2.1.toInt64) hx hb dL_law_779 rfl ?_
      refine W.lcmp hx hb dL_law_780 ?_
      refine lv_if_eq (tgt := 786) hx hb dL_law_781 (by decide) (fun cc2 => ?_) (fun cc2 => ?_)
      rotate_left
      · exact absurd (lcmp_0 (hp.2.1 cc1)) cc2
      refine lv_goto (tgt := 789) hx hb dL_law_786 (by decide) ?_
      exact kk _ H locs ls _ hp.2.2 hM (lv_sub hl [2, 3, 4, 5, 6] rfl)
  · rw [show lb v2 = 1 from if_neg cb] at hf h2
    refine lv_iconst (v := (1 : Int32)) hx hb dL_law_709 (by decide) ?_
    refine lv_goto (tgt := 714) hx hb dL_law_710 (by decide) ?_
    refine lv_aload_n hx hb dL_law_714 rfl (lv_at hl 0 rfl) ?_
    refine lv_iload hx hb dL_law_715 (lv_at hl 4 rfl) ?_
    refine lv_iconst (v := (3 : Int32)) hx hb dL_law_717 (by decide) ?_
    refine lv_iadd hx hb dL_law_718 ?_
    refine L_sld X hM hX hs.2.2 dL_law_719 ?_
    refine lv_aload_n hx hb dL_law_720 rfl (lv_at hl 3 rfl) ?_
    refine L_si X hM hN (c_L_tag hlt ha hf) gL_law_L_tag rfl ⟨rfl, rfl⟩ hcs hd_L_tag ⟨Nat.le_of_ble_eq_true rfl, Nat.le_of_ble_eq_true rfl⟩ rfl hl.1 rfl (Nat.le_of_ble_eq_true rfl) dL_law_721 (fun k F1 S1 H locs hp hM => ?_)
    refine lv_istore (lv' := [(5, .int k), (0, .ref b), (1, .ref (zh y 1)), (2, .ref (h 0)), (3, .ref ob), (4, .int i)]) hx hb dL_law_724 hl (by decide) rfl (fun ls hl => ?_)
    refine lv_aload_n hx hb dL_law_726 rfl (lv_at hl 3 rfl) ?_
    refine lv_aload_n hx hb dL_law_727 rfl (lv_at hl 1 rfl) ?_
    refine lv_iload hx hb dL_law_728 (lv_at hl 5 rfl) ?_
    refine lv_iconst (v := (1 : Int32)) hx hb dL_law_730 (by decide) ?_
    refine lv_iadd hx hb dL_law_731 ?_
    refine L_sld X hM hX hs.1 dL_law_732 ?_
    refine lv_aload_n hx hb dL_law_733 rfl (lv_at hl 1 rfl) ?_
    refine lv_iload hx hb dL_law_734 (lv_at hl 5 rfl) ?_
    refine lv_iconst (v := (2 : Int32)) hx hb dL_law_736 (by decide) ?_
    refine lv_iadd hx hb dL_law_737 ?_
    refine L_sld X hM hX hs.2.1 dL_law_738 ?_
    refine lv_if_eq (tgt := 746) hx hb dL_law_739 (by decide) (fun cc2 => ?_) (fun cc2 => ?_)
    · exact absurd cc2 cb
    refine lv_iconst (v := (1 : Int32)) hx hb dL_law_742 (by decide) ?_
    refine lv_goto (tgt := 747) hx hb dL_law_743 (by decide) ?_
    refine lv_aload_n hx hb dL_law_747 rfl (lv_at hl 1 rfl) ?_
    refine lv_iload hx hb dL_law_748 (lv_at hl 5 rfl) ?_
    refine lv_iconst (v := (3 : Int32)) hx hb dL_law_750 (by decide) ?_
    refine lv_iadd hx hb dL_law_751 ?_
    refine L_sld X hM hX hs.2.2 dL_law_752 ?_
    refine L_mi X hM (c_tag h2) gL_law_X12_tag rfl ⟨rfl, rfl⟩ hcs hd_tag ⟨Nat.le_of_ble_eq_true rfl, Nat.le_of_ble_eq_true rfl⟩ rfl hl.1 rfl (Nat.le_of_ble_eq_true rfl) dL_law_753 (fun H locs hM => ?_)
    refine lv_istore (lv' := [(6, .int o2.1), (5, .int k), (0, .ref b), (1, .ref (zh y 1)), (2, .ref (h 0)), (3, .ref ob), (4, .int i)]) hx hb dL_law_756 hl (by decide) rfl (fun ls hl => ?_)
    refine lv_aload_n hx hb dL_law_758 rfl (lv_at hl 4 rfl) ?_
    refine L_mi X hM (c_thrown h3) gL_law_X12_thrown rfl ⟨rfl, rfl⟩ hcs hd_thrown ⟨Nat.le_of_ble_eq_true rfl, Nat.le_of_ble_eq_true rfl⟩ rfl hl.1 rfl (Nat.le_of_ble_eq_true rfl) dL_law_759 (fun H locs hM => ?_)
    refine lv_iload hx hb dL_law_762 (lv_at hl 1 rfl) ?_
    refine lv_icmp_eq (tgt := 769) hx hb dL_law_764 (by decide) (fun cc1 => ?_) (fun cc1 => ?_)
    rotate_left
    · exact absurd hp.1.symm cc1
    clear cc1
    refine lv_iload hx hb dL_law_769 (lv_at hl 1 rfl) ?_
    refine lv_if_ne (tgt := 786) hx hb dL_law_771 (by decide) (fun cc1 => ?_) (fun cc1 => ?_)
    · skip
      refine lv_goto (tgt := 789) hx hb dL_law_786 (by decide) ?_
      exact kk _ H locs ls _ hp.2.2 hM (lv_sub hl [2, 3, 4, 5, 6] rfl)
    · skip
      refine lv_aload_n hx hb dL_law_774 rfl (lv_at hl 5 rfl) ?_
      refine lv_iconst (v := (0 : Int32)) hx hb dL_law_775 (by decide) ?_
      refine L_lald X hM dL_law_776 ?_
      refine lv_iload hx hb dL_law_777 (lv_at hl 0 rfl) ?_
      refine lv_i2l (v := o2.1.toInt64) hx hb dL_law_779 rfl ?_
      refine W.lcmp hx hb dL_law_780 ?_
      refine lv_if_eq (tgt := 786) hx hb dL_law_781 (by decide) (fun cc2 => ?_) (fun cc2 => ?_)
      rotate_left
      · exact absurd (lcmp_0 (hp.2.1 cc1)) cc2
      refine lv_goto (tgt := 789) hx hb dL_law_786 (by decide) ?_
      exact kk _ H locs ls _ hp.2.2 hM (lv_sub hl [2, 3, 4, 5, 6] rfl)
