abbrev oW (y : Nat → ClassId) (S : ZS) (ob : Nat) (cJ : ClassId) (F : Nat → Int64) : va_W := zW y S ++ [(ob, oE cJ F)]
def LB (D : va_G) (y : Nat → ClassId) (ob : Nat) (cJ : ClassId) (S : ZS) (F : Nat → Int64) (sz : Nat) : State → Prop := fun U =>
  U.heap.size = sz ∧ va_P D vwCl (oW y S ob cJ F) U.heap ∧ va_K D vwCl (zT y) U ∧ va_K D vwCl [(cJ, .long)] U ∧ va_D (fun _ => True) (oW y S ob cJ F) ∧ zE y (va_A (oW y S ob cJ F) sz) U U.heap ∧ zG y S sz ∧ zX (va_A (oW y S ob cJ F) sz) U U.heap ∧ va_Nc (xN 3) (xN 1) U ∧ va_Nc (xN 4) (xN 1) U
abbrev LQi (D : va_G) (y : Nat → ClassId) (ob : Nat) (cJ : ClassId) (S : ZS) (F : Nat → Int64) (sz : Nat) (Pl : Int32 → (Nat → Int64) → ZS → Prop) : Array Value → State → Outcome → State → Prop := va_Qi (fun (r : Int32) (u : (Nat → Int64) × ZS) => Pl r u.1 u.2) (fun u t => va_P D vwCl (oW y u.2 ob cJ u.1) t.heap ∧ va_D (va_A (oW y S ob cJ F) sz) (oW y u.2 ob cJ u.1) ∧ zG y u.2 t.heap.size) (va_A (oW y S ob cJ F) sz)
def LMi (l : Launch) (q : MethodName) (ws : List Cond) (rm : Room) (av : List Value) (D : va_G) (y : Nat → ClassId) (ob : Nat) (cJ : ClassId) (S : ZS) (F : Nat → Int64) (mc ms : Nat) (Pl : Int32 → (Nat → Int64) → ZS → Prop) : Prop :=
  ∀ sz : Nat, Met l q ws rm (va_Pc av (LB D y ob cJ S F sz)) (LQi D y ob cJ S F sz Pl) mc ms (va_A (oW y S ob cJ F) sz)
theorem L_ne {A : Nat → Prop} {y : Nat → ClassId} {S : ZS} {ob : Nat} {cJ : ClassId} {F : Nat → Int64} (hD : va_D A (oW y S ob cJ F)) : ∀ a ∈ zL S, zh y a ≠ ob := by
  intro a ha e1
  obtain ⟨k, hk⟩ := zW_at (y := y) ha
  have hlt : k < (zW y S).length := (List.getElem?_eq_some_iff.mp hk).1
  have h1 := hD.1 k (zW y S).length (zh y a, zF y S a) (ob, oE cJ F) (by rw [List.getElem?_append_left hlt]; exact hk) (by rw [List.getElem?_append_right (Nat.le_refl _), Nat.sub_self]; rfl) e1
  exact absurd h1 (Nat.ne_of_lt hlt)
theorem LB_start {D : va_G} {y : Nat → ClassId} {ob : Nat} {cJ : ClassId} {S : ZS} {F : Nat → Int64} {s : State} (hv : LB D y ob cJ S F s.heap.size s) : LH0 D y ob cJ (va_A (oW y S ob cJ F) s.heap.size) s s.heap [] S F := by
  obtain ⟨-, hP, hK, hKJ, hD0, hE, hG, hX, -⟩ := hv
  have hD : va_D (va_A (oW y S ob cJ F) s.heap.size) (oW y S ob cJ F) := hD0.self
  refine ⟨⟨lp_l hP, ⟨fun i j a b hi hj e1 => hD.1 i j a b (by rw [List.getElem?_append_left (List.getElem?_eq_some_iff.mp hi).1]; exact hi) (by rw [List.getElem?_append_left (List.getElem?_eq_some_iff.mp hj).1]; exact hj) e1, fun k q hk => hD.2 k q (by rw [List.getElem?_append_left (List.getElem?_eq_some_iff.mp hk).1]; exact hk)⟩, va_S.rf, hK, fun q hq => Or.inr hq, hE, hG⟩, lp_r hP, ⟨hD.2 (zW y S).length (ob, oE cJ F) (by rw [List.getElem?_append_right (Nat.le_refl _), Nat.sub_self]; rfl), hKJ⟩, L_ne hD, hX⟩
theorem L_hret {p : Program} {l : Launch} {e : Env} {R : Room} {s : State} {m : MethodId} {args : Array Value} {below : List Frame} {meth : Method} {c : Code} {H : Heap} {locs : List Loc} {cells slots : Nat} {cc : ByteArray} {pc nL : Nat} {ls : Array Slot} {D : va_G} {Ts : List Cond} {y : Nat → ClassId} {S S1 : ZS} {own : String} {ob : Nat} {cJ : ClassId} {F F1 : Nat → Int64} {Pl : Int32 → (Nat → Int64) → ZS → Prop} (X : CallFix p m c cc nL s args Ts own) (hr : meth.sig.returnType = some .int) (hlocks : meth.locks = false) (hM : LH0 D y ob cJ (va_A (oW y S ob cJ F) s.heap.size) s H locs S1 F1) {r : Int32} (hp : Pl r F1 S1) (hcs : cells ≤ R.cells ∧ slots ≤ R.slots) (hdg : decode cc pc = .ok (.ireturn, 1)) :
    W p l e R s m args below meth c H locs cells slots (MQ below (LQi D y ob cJ S F s.heap.size Pl) args s R.cells R.slots (va_A (oW y S ob cJ F) s.heap.size)) (F0 m pc ls [.int r]) := by
  obtain ⟨hz, hPo, ⟨hob, hKJ⟩, hne, hX⟩ := hM
  refine W.widen (k := R.cells) (n := R.slots) hcs.1 hcs.2 ?_
  refine W.zret (v := r) X.1 X.2.1 hr rfl (fun t ht hW => ⟨⟨r, (F1, S1), rfl, hp, ?_⟩, hz.2.2.1.F ht⟩) hz.2.2.1.2.2 hdg
  show va_P D vwCl (oW y S1 ob cJ F1) t.heap ∧ va_D (va_A (oW y S ob cJ F) s.heap.size) (oW y S1 ob cJ F1) ∧ zG y S1 t.heap.size
  rw [ht]
  exact ⟨hz.1.app hPo, ld_a hz.2.1 hob (fun k z hk => by
    obtain ⟨a, ha, e1⟩ := l_zat hk
    rw [← e1]; exact hne a ha), hz.2.2.2.2.2.2⟩
theorem lk_L_signs_13 : Cond.classLink RL 13 (xN 1) ∈ wsL_signs := by decide +kernel
set_option maxRecDepth 100000 in
set_option maxHeartbeats 4000000 in
theorem c_L_signs {l : Launch} {D : va_G} {y : Nat → ClassId} {ob : Nat} {cJ : ClassId} {x0 : Nat} {x1 : Int32} {S : ZS} {F : Nat → Int64} {kc kt : Nat} {Pl : Int32 → (Nat → Int64) → ZS → Prop} (hlt : l.stackTraces = false) (ha : x0 ∈ zL S ∧ zK S x0 = 11) (hf : g_X11_signs x0 x1 S kc kt (fun v S1 => ∀ F1 : Nat → Int64, F1 0 = v.toInt64 → Pl 0 F1 S1) (fun k S1 => (k = 1 ∧ Pl 1 F S1))) : LMi l yL_signs wsL_signs ({ frames := 7, cells := kc, slots := kt, locals := 181 } : Room) [.ref (zh y x0), .int x1, .ref ob] D y ob cJ S F kc kt Pl := by
  intro sz
  refine va_MetW (cc := cL_signs) (maxL := 4) (ret := some .int) (hh := [(0, 9, 12, 13)]) (by decide) rfl ?_
  intro p e s m args below meth c s₁ B hml hv
  obtain ⟨rfl, hv⟩ := hv
  have hsz := hv.1
  subst hsz
  have hM := LB_start hv
  have hX := hv.2.2.2.2.2.2.2.1
  have hN := hv.2.2.2.2.2.2.2.2
  have hr := B.returns
  have hlocks := B.notSynchronized
  have X : CallFix p m c cL_signs 4 s [Value.ref (zh y x0), Value.int x1, Value.ref ob].toArray wsL_signs RL := ⟨B.exec, B.bytes, hml, findClass_of_methodNamed B.named, atoms_spec (ws := wsL_signs) B.pre⟩
  obtain ⟨hx, hb, -, hown, hts⟩ := id X
  have htab := vx_table (x := yL_signs) B (hts _ List.mem_cons_self)
  have hl := lv_entry [Value.ref (zh y x0), Value.int x1, Value.ref ob] (n := 4) (Nat.le_of_ble_eq_true rfl)
  rw [lg_entry_eq]
  replace hl := (lv_sub hl [0, 1, 2] rfl : lv_has _ 4 [(0, .ref (zh y x0)), (1, .int x1), (2, .ref ob)])
  clear hv
  refine lv_aload_n hx hb dL_signs_0 rfl (lv_at hl 2 rfl) ?_
  refine lv_iconst (v := (0 : Int32)) hx hb dL_signs_1 (by decide) ?_
  refine lv_aload_n hx hb dL_signs_2 rfl (lv_at hl 0 rfl) ?_
  refine lv_iload_n hx hb dL_signs_3 rfl (lv_at hl 1 rfl) ?_
  refine L_xcalli (cells := 0) (slots := 0) X hM ha (c_X11_signs hlt hf) gL_signs_X11_signs rfl ⟨rfl, rfl⟩ ⟨Nat.le_of_eq (Nat.zero_add _), Nat.le_of_eq (Nat.zero_add _)⟩ hd_X11_signs ⟨Nat.le_of_ble_eq_true rfl, Nat.le_of_ble_eq_true rfl⟩ rfl hl.1 rfl (Nat.le_of_ble_eq_true rfl) dL_signs_4 (fun k S1 H locs q9 ce hp hM h5 h6 h7 => ?_) (fun v S1 H locs hp hM => ?_)
  · obtain ⟨rfl, hp⟩ := hp
    refine vx_catch (own := RL) (name := xN 1) hown [] ⟨0, 9, 12, 13⟩ [] htab (fun z hz => nomatch hz) (by decide) (by decide) (hts _ lk_L_signs_13) (va_Nw.use rfl (hX.1.1 _ (xN_in 1))) h5 h6 h7 ?_
    refine lv_astore_n (lv' := [(3, .ref q9), (0, .ref (zh y x0)), (1, .int x1), (2, .ref ob)]) hx hb dL_signs_12 rfl hl (by decide) rfl (fun ls hl => ?_)
    refine lv_iconst (v := (1 : Int32)) hx hb dL_signs_13 (by decide) ?_
    exact L_hret X hr hlocks hM hp ⟨Nat.le_of_eq (Nat.zero_add _), Nat.le_of_eq (Nat.zero_add _)⟩ dL_signs_14
  refine lv_i2l (v := v.toInt64) hx hb dL_signs_7 rfl ?_
  refine L_last X hM dL_signs_8 (fun H locs F1 hF1 hM => ?_)
  replace hp := hp F1 hF1
  refine lv_goto (tgt := 15) hx hb dL_signs_9 (by decide) ?_
  refine lv_iconst (v := (0 : Int32)) hx hb dL_signs_15 (by decide) ?_
  exact L_hret X hr hlocks hM hp ⟨Nat.le_of_eq (Nat.zero_add _), Nat.le_of_eq (Nat.zero_add _)⟩ dL_signs_16
theorem lk_L_node_19 : Cond.classLink RL 19 (xN 2) ∈ wsL_node := by decide +kernel
set_option maxRecDepth 100000 in
set_option maxHeartbeats 4000000 in
theorem c_L_node {l : Launch} {D : va_G} {y : Nat → ClassId} {ob : Nat} {cJ : ClassId} {x0 : Nat} {x1 : Int32} {x2 : Int32} {S : ZS} {F : Nat → Int64} {kc kt : Nat} {Pl : Int32 → (Nat → Int64) → ZS → Prop} (hlt : l.stackTraces = false) (ha : x0 ∈ zL S ∧ zK S x0 = 11) (hf : g_X11_node x0 x1 x2 S kc kt (fun v S1 => ∀ F1 : Nat → Int64, F1 0 = v.toInt64 → Pl 0 F1 S1) (fun k S1 => (k = 2 ∧ Pl 1 F S1))) : LMi l yL_node wsL_node ({ frames := 7, cells := kc, slots := kt, locals := 113 } : Room) [.ref (zh y x0), .int x1, .int x2, .ref ob] D y ob cJ S F kc kt Pl := by
  intro sz
  refine va_MetW (cc := cL_node) (maxL := 5) (ret := some .int) (hh := [(0, 10, 13, 19)]) (by decide) rfl ?_
  intro p e s m args below meth c s₁ B hml hv
  obtain ⟨rfl, hv⟩ := hv
  have hsz := hv.1
  subst hsz
  have hM := LB_start hv
  have hX := hv.2.2.2.2.2.2.2.1
  have hN := hv.2.2.2.2.2.2.2.2
  have hr := B.returns
  have hlocks := B.notSynchronized
  have X : CallFix p m c cL_node 5 s [Value.ref (zh y x0), Value.int x1, Value.int x2, Value.ref ob].toArray wsL_node RL := ⟨B.exec, B.bytes, hml, findClass_of_methodNamed B.named, atoms_spec (ws := wsL_node) B.pre⟩
  obtain ⟨hx, hb, -, hown, hts⟩ := id X
  have htab := vx_table (x := yL_node) B (hts _ List.mem_cons_self)
  have hl := lv_entry [Value.ref (zh y x0), Value.int x1, Value.int x2, Value.ref ob] (n := 5) (Nat.le_of_ble_eq_true rfl)
  rw [lg_entry_eq]
  replace hl := (lv_sub hl [0, 1, 2, 3] rfl : lv_has _ 5 [(0, .ref (zh y x0)), (1, .int x1), (2, .int x2), (3, .ref ob)])
  clear hv
  refine lv_aload_n hx hb dL_node_0 rfl (lv_at hl 3 rfl) ?_
  refine lv_iconst (v := (0 : Int32)) hx hb dL_node_1 (by decide) ?_
  refine lv_aload_n hx hb dL_node_2 rfl (lv_at hl 0 rfl) ?_
  refine lv_iload_n hx hb dL_node_3 rfl (lv_at hl 1 rfl) ?_
  refine lv_iload_n hx hb dL_node_4 rfl (lv_at hl 2 rfl) ?_
  refine L_xcalli (cells := 0) (slots := 0) X hM ha (c_X11_node hlt hf) gL_node_X11_node rfl ⟨rfl, rfl⟩ ⟨Nat.le_of_eq (Nat.zero_add _), Nat.le_of_eq (Nat.zero_add _)⟩ hd_X11_node ⟨Nat.le_of_ble_eq_true rfl, Nat.le_of_ble_eq_true rfl⟩ rfl hl.1 rfl (Nat.le_of_ble_eq_true rfl) dL_node_5 (fun k S1 H locs q9 ce hp hM h5 h6 h7 => ?_) (fun v S1 H locs hp hM => ?_)
  · obtain ⟨rfl, hp⟩ := hp
    refine vx_catch (own := RL) (name := xN 2) hown [] ⟨0, 10, 13, 19⟩ [] htab (fun z hz => nomatch hz) (by decide) (by decide) (hts _ lk_L_node_19) (va_Nw.use rfl (hX.1.1 _ (xN_in 2))) h5 h6 h7 ?_
    refine lv_astore (lv' := [(4, .ref q9), (0, .ref (zh y x0)), (1, .int x1), (2, .int x2), (3, .ref ob)]) hx hb dL_node_13 hl (by decide) rfl (fun ls hl => ?_)
    refine lv_iconst (v := (1 : Int32)) hx hb dL_node_15 (by decide) ?_
    exact L_hret X hr hlocks hM hp ⟨Nat.le_of_eq (Nat.zero_add _), Nat.le_of_eq (Nat.zero_add _)⟩ dL_node_16
  refine lv_i2l (v := v.toInt64) hx hb dL_node_8 rfl ?_
  refine L_last X hM dL_node_9 (fun H locs F1 hF1 hM => ?_)
  replace hp := hp F1 hF1
  refine lv_goto (tgt := 17) hx hb dL_node_10 (by decide) ?_
  refine lv_iconst (v := (0 : Int32)) hx hb dL_node_17 (by decide) ?_
  exact L_hret X hr hlocks hM hp ⟨Nat.le_of_eq (Nat.zero_add _), Nat.le_of_eq (Nat.zero_add _)⟩ dL_node_18
theorem lk_L_mark_19 : Cond.classLink RL 19 (xN 2) ∈ wsL_mark := by decide +kernel
set_option maxRecDepth 100000 in
set_option maxHeartbeats 4000000 in
theorem c_L_mark {l : Launch} {D : va_G} {y : Nat → ClassId} {ob : Nat} {cJ : ClassId} {x0 : Nat} {x1 : Int32} {x2 : Int32} {S : ZS} {F : Nat → Int64} {kc kt : Nat} {Pl : Int32 → (Nat → Int64) → ZS → Prop} (hlt : l.stackTraces = false) (ha : x0 ∈ zL S ∧ zK S x0 = 11) (hf : g_X11_mark x0 x1 x2 S kc kt (fun v S1 => ∀ F1 : Nat → Int64, F1 0 = v.toInt64 → Pl 0 F1 S1) (fun k S1 => (k = 2 ∧ Pl 1 F S1))) : LMi l yL_mark wsL_mark ({ frames := 7, cells := kc, slots := kt, locals := 112 } : Room) [.ref (zh y x0), .int x1, .int x2, .ref ob] D y ob cJ S F kc kt Pl := by
  intro sz
  refine va_MetW (cc := cL_mark) (maxL := 5) (ret := some .int) (hh := [(0, 10, 13, 19)]) (by decide) rfl ?_
  intro p e s m args below meth c s₁ B hml hv
  obtain ⟨rfl, hv⟩ := hv
  have hsz := hv.1
  subst hsz
  have hM := LB_start hv
  have hX := hv.2.2.2.2.2.2.2.1
  have hN := hv.2.2.2.2.2.2.2.2
  have hr := B.returns
  have hlocks := B.notSynchronized
  have X : CallFix p m c cL_mark 5 s [Value.ref (zh y x0), Value.int x1, Value.int x2, Value.ref ob].toArray wsL_mark RL := ⟨B.exec, B.bytes, hml, findClass_of_methodNamed B.named, atoms_spec (ws := wsL_mark) B.pre⟩
  obtain ⟨hx, hb, -, hown, hts⟩ := id X
  have htab := vx_table (x := yL_mark) B (hts _ List.mem_cons_self)
  have hl := lv_entry [Value.ref (zh y x0), Value.int x1, Value.int x2, Value.ref ob] (n := 5) (Nat.le_of_ble_eq_true rfl)
  rw [lg_entry_eq]
  replace hl := (lv_sub hl [0, 1, 2, 3] rfl : lv_has _ 5 [(0, .ref (zh y x0)), (1, .int x1), (2, .int x2), (3, .ref ob)])
  clear hv
  refine lv_aload_n hx hb dL_mark_0 rfl (lv_at hl 3 rfl) ?_
  refine lv_iconst (v := (0 : Int32)) hx hb dL_mark_1 (by decide) ?_
  refine lv_aload_n hx hb dL_mark_2 rfl (lv_at hl 0 rfl) ?_
  refine lv_iload_n hx hb dL_mark_3 rfl (lv_at hl 1 rfl) ?_
  refine lv_iload_n hx hb dL_mark_4 rfl (lv_at hl 2 rfl) ?_
  refine L_xcalli (cells := 0) (slots := 0) X hM ha (c_X11_mark hlt hf) gL_mark_X11_mark rfl ⟨rfl, rfl⟩ ⟨Nat.le_of_eq (Nat.zero_add _), Nat.le_of_eq (Nat.zero_add _)⟩ hd_X11_mark ⟨Nat.le_of_ble_eq_true rfl, Nat.le_of_ble_eq_true rfl⟩ rfl hl.1 rfl (Nat.le_of_ble_eq_true rfl) dL_mark_5 (fun k S1 H locs q9 ce hp hM h5 h6 h7 => ?_) (fun v S1 H locs hp hM => ?_)
  · obtain ⟨rfl, hp⟩ := hp
    refine vx_catch (own := RL) (name := xN 2) hown [] ⟨0, 10, 13, 19⟩ [] htab (fun z hz => nomatch hz) (by decide) (by decide) (hts _ lk_L_mark_19) (va_Nw.use rfl (hX.1.1 _ (xN_in 2))) h5 h6 h7 ?_
    refine lv_astore (lv' := [(4, .ref q9), (0, .ref (zh y x0)), (1, .int x1), (2, .int x2), (3, .ref ob)]) hx hb dL_mark_13 hl (by decide) rfl (fun ls hl => ?_)
    refine lv_iconst (v := (1 : Int32)) hx hb dL_mark_15 (by decide) ?_
    exact L_hret X hr hlocks hM hp ⟨Nat.le_of_eq (Nat.zero_add _), Nat.le_of_eq (Nat.zero_add _)⟩ dL_mark_16
  refine lv_i2l (v := v.toInt64) hx hb dL_mark_8 rfl ?_
  refine L_last X hM dL_mark_9 (fun H locs F1 hF1 hM => ?_)
  replace hp := hp F1 hF1
  refine lv_goto (tgt := 17) hx hb dL_mark_10 (by decide) ?_
  refine lv_iconst (v := (0 : Int32)) hx hb dL_mark_17 (by decide) ?_
  exact L_hret X hr hlocks hM hp ⟨Nat.le_of_eq (Nat.zero_add _), Nat.le_of_eq (Nat.zero_add _)⟩ dL_mark_18
theorem lk_L_remark_19 : Cond.classLink RL 19 (xN 2) ∈ wsL_remark := by decide +kernel
set_option maxRecDepth 100000 in
set_option maxHeartbeats 4000000 in
theorem c_L_remark {l : Launch} {D : va_G} {y : Nat → ClassId} {ob : Nat} {cJ : ClassId} {x0 : Nat} {x1 : Int32} {x2 : Int32} {S : ZS} {F : Nat → Int64} {kc kt : Nat} {Pl : Int32 → (Nat → Int64) → ZS → Prop} (hlt : l.stackTraces = false) (ha : x0 ∈ zL S ∧ zK S x0 = 11) (hf : g_X11_remark x0 x1 x2 S kc kt (fun v S1 => ∀ F1 : Nat → Int64, F1 0 = v.toInt64 → Pl 0 F1 S1) (fun k S1 => (k = 2 ∧ Pl 1 F S1))) : LMi l yL_remark wsL_remark ({ frames := 7, cells := kc, slots := kt, locals := 112 } : Room) [.ref (zh y x0), .int x1, .int x2, .ref ob] D y ob cJ S F kc kt Pl := by
  intro sz
  refine va_MetW (cc := cL_remark) (maxL := 5) (ret := some .int) (hh := [(0, 10, 13, 19)]) (by decide) rfl ?_
  intro p e s m args below meth c s₁ B hml hv
  obtain ⟨rfl, hv⟩ := hv
  have hsz := hv.1
  subst hsz
  have hM := LB_start hv
  have hX := hv.2.2.2.2.2.2.2.1
  have hN := hv.2.2.2.2.2.2.2.2
  have hr := B.returns
  have hlocks := B.notSynchronized
  have X : CallFix p m c cL_remark 5 s [Value.ref (zh y x0), Value.int x1, Value.int x2, Value.ref ob].toArray wsL_remark RL := ⟨B.exec, B.bytes, hml, findClass_of_methodNamed B.named, atoms_spec (ws := wsL_remark) B.pre⟩
  obtain ⟨hx, hb, -, hown, hts⟩ := id X
  have htab := vx_table (x := yL_remark) B (hts _ List.mem_cons_self)
  have hl := lv_entry [Value.ref (zh y x0), Value.int x1, Value.int x2, Value.ref ob] (n := 5) (Nat.le_of_ble_eq_true rfl)
  rw [lg_entry_eq]
  replace hl := (lv_sub hl [0, 1, 2, 3] rfl : lv_has _ 5 [(0, .ref (zh y x0)), (1, .int x1), (2, .int x2), (3, .ref ob)])
  clear hv
  refine lv_aload_n hx hb dL_remark_0 rfl (lv_at hl 3 rfl) ?_
  refine lv_iconst (v := (0 : Int32)) hx hb dL_remark_1 (by decide) ?_
  refine lv_aload_n hx hb dL_remark_2 rfl (lv_at hl 0 rfl) ?_
  refine lv_iload_n hx hb dL_remark_3 rfl (lv_at hl 1 rfl) ?_
  refine lv_iload_n hx hb dL_remark_4 rfl (lv_at hl 2 rfl) ?_
  refine L_xcalli (cells := 0) (slots := 0) X hM ha (c_X11_remark hlt hf) gL_remark_X11_remark rfl ⟨rfl, rfl⟩ ⟨Nat.le_of_eq (Nat.zero_add _), Nat.le_of_eq (Nat.zero_add _)⟩ hd_X11_remark ⟨Nat.le_of_ble_eq_true rfl, Nat.le_of_ble_eq_true rfl⟩ rfl hl.1 rfl (Nat.le_of_ble_eq_true rfl) dL_remark_5 (fun k S1 H locs q9 ce hp hM h5 h6 h7 => ?_) (fun v S1 H locs hp hM => ?_)
  · obtain ⟨rfl, hp⟩ := hp
    refine vx_catch (own := RL) (name := xN 2) hown [] ⟨0, 10, 13, 19⟩ [] htab (fun z hz => nomatch hz) (by decide) (by decide) (hts _ lk_L_remark_19) (va_Nw.use rfl (hX.1.1 _ (xN_in 2))) h5 h6 h7 ?_
    refine lv_astore (lv' := [(4, .ref q9), (0, .ref (zh y x0)), (1, .int x1), (2, .int x2), (3, .ref ob)]) hx hb dL_remark_13 hl (by decide) rfl (fun ls hl => ?_)
    refine lv_iconst (v := (1 : Int32)) hx hb dL_remark_15 (by decide) ?_
    exact L_hret X hr hlocks hM hp ⟨Nat.le_of_eq (Nat.zero_add _), Nat.le_of_eq (Nat.zero_add _)⟩ dL_remark_16
  refine lv_i2l (v := v.toInt64) hx hb dL_remark_8 rfl ?_
  refine L_last X hM dL_remark_9 (fun H locs F1 hF1 hM => ?_)
  replace hp := hp F1 hF1
  refine lv_goto (tgt := 17) hx hb dL_remark_10 (by decide) ?_
  refine lv_iconst (v := (0 : Int32)) hx hb dL_remark_17 (by decide) ?_
  exact L_hret X hr hlocks hM hp ⟨Nat.le_of_eq (Nat.zero_add _), Nat.le_of_eq (Nat.zero_add _)⟩ dL_remark_18
theorem lk_L_go_19 : Cond.classLink RL 19 (xN 2) ∈ wsL_go := by decide +kernel
set_option maxRecDepth 100000 in
set_option maxHeartbeats 4000000 in
theorem c_L_go {l : Launch} {D : va_G} {y : Nat → ClassId} {ob : Nat} {cJ : ClassId} {x0 : Nat} {x1 : Int32} {S : ZS} {F : Nat → Int64} {kc kt : Nat} {Pl : Int32 → (Nat → Int64) → ZS → Prop} (hlt : l.stackTraces = false) (ha : x0 ∈ zL S ∧ zK S x0 = 11) (hf : g_X11_go x0 x1 S kc kt (fun _ S1 => Pl 0 F S1) (fun k S1 => (k = 2 ∧ Pl 1 F S1))) : LMi l yL_go wsL_go ({ frames := 7, cells := kc, slots := kt, locals := 127 } : Room) [.ref (zh y x0), .int x1] D y ob cJ S F kc kt Pl := by
  intro sz
  refine va_MetW (cc := cL_go) (maxL := 3) (ret := some .int) (hh := [(0, 5, 8, 19)]) (by decide) rfl ?_
  intro p e s m args below meth c s₁ B hml hv
  obtain ⟨rfl, hv⟩ := hv
  have hsz := hv.1
  subst hsz
  have hM := LB_start hv
  have hX := hv.2.2.2.2.2.2.2.1
  have hN := hv.2.2.2.2.2.2.2.2
  have hr := B.returns
  have hlocks := B.notSynchronized
  have X : CallFix p m c cL_go 3 s [Value.ref (zh y x0), Value.int x1].toArray wsL_go RL := ⟨B.exec, B.bytes, hml, findClass_of_methodNamed B.named, atoms_spec (ws := wsL_go) B.pre⟩
  obtain ⟨hx, hb, -, hown, hts⟩ := id X
  have htab := vx_table (x := yL_go) B (hts _ List.mem_cons_self)
  have hl := lv_entry [Value.ref (zh y x0), Value.int x1] (n := 3) (Nat.le_of_ble_eq_true rfl)
  rw [lg_entry_eq]
  replace hl := (lv_sub hl [0, 1] rfl : lv_has _ 3 [(0, .ref (zh y x0)), (1, .int x1)])
  clear hv
  refine lv_aload_n hx hb dL_go_0 rfl (lv_at hl 0 rfl) ?_
  refine lv_iload_n hx hb dL_go_1 rfl (lv_at hl 1 rfl) ?_
  refine L_xcallv (cells := 0) (slots := 0) X hM ha (c_X11_go hlt hf) gL_go_X11_go rfl ⟨rfl, rfl⟩ ⟨Nat.le_of_eq (Nat.zero_add _), Nat.le_of_eq (Nat.zero_add _)⟩ hd_X11_go ⟨Nat.le_of_ble_eq_true rfl, Nat.le_of_ble_eq_true rfl⟩ rfl hl.1 rfl (Nat.le_of_ble_eq_true rfl) dL_go_2 (fun k S1 H locs q9 ce hp hM h5 h6 h7 => ?_) (fun S1 H locs hp hM => ?_)
  · obtain ⟨rfl, hp⟩ := hp
    refine vx_catch (own := RL) (name := xN 2) hown [] ⟨0, 5, 8, 19⟩ [] htab (fun z hz => nomatch hz) (by decide) (by decide) (hts _ lk_L_go_19) (va_Nw.use rfl (hX.1.1 _ (xN_in 2))) h5 h6 h7 ?_
    refine lv_astore_n (lv' := [(2, .ref q9), (0, .ref (zh y x0)), (1, .int x1)]) hx hb dL_go_8 rfl hl (by decide) rfl (fun ls hl => ?_)
    refine lv_iconst (v := (1 : Int32)) hx hb dL_go_9 (by decide) ?_
    exact L_hret X hr hlocks hM hp ⟨Nat.le_of_eq (Nat.zero_add _), Nat.le_of_eq (Nat.zero_add _)⟩ dL_go_10
  refine lv_goto (tgt := 11) hx hb dL_go_5 (by decide) ?_
  refine lv_iconst (v := (0 : Int32)) hx hb dL_go_11 (by decide) ?_
  exact L_hret X hr hlocks hM hp ⟨Nat.le_of_eq (Nat.zero_add _), Nat.le_of_eq (Nat.zero_add _)⟩ dL_go_12
theorem lk_L_man_19 : Cond.classLink RL 19 (xN 2) ∈ wsL_man := by decide +kernel
set_option maxRecDepth 100000 in
set_option maxHeartbeats 4000000 in
theorem c_L_man {l : Launch} {D : va_G} {y : Nat → ClassId} {ob : Nat} {cJ : ClassId} {x0 : Nat} {x1 : Int32} {S : ZS} {F : Nat → Int64} {kc kt : Nat} {Pl : Int32 → (Nat → Int64) → ZS → Prop} (hlt : l.stackTraces = false) (ha : x0 ∈ zL S ∧ zK S x0 = 11) (hf : g_X11_man x0 x1 S kc kt (fun v S1 => ∀ F1 : Nat → Int64, F1 0 = v.toInt64 → Pl 0 F1 S1) (fun k S1 => (k = 2 ∧ Pl 1 F S1))) : LMi l yL_man wsL_man ({ frames := 7, cells := kc, slots := kt, locals := 111 } : Room) [.ref (zh y x0), .int x1, .ref ob] D y ob cJ S F kc kt Pl := by
  intro sz
  refine va_MetW (cc := cL_man) (maxL := 4) (ret := some .int) (hh := [(0, 9, 12, 19)]) (by decide) rfl ?_
  intro p e s m args below meth c s₁ B hml hv
  obtain ⟨rfl, hv⟩ := hv
  have hsz := hv.1
  subst hsz
  have hM := LB_start hv
  have hX := hv.2.2.2.2.2.2.2.1
  have hN := hv.2.2.2.2.2.2.2.2
  have hr := B.returns
  have hlocks := B.notSynchronized
  have X : CallFix p m c cL_man 4 s [Value.ref (zh y x0), Value.int x1, Value.ref ob].toArray wsL_man RL := ⟨B.exec, B.bytes, hml, findClass_of_methodNamed B.named, atoms_spec (ws := wsL_man) B.pre⟩
  obtain ⟨hx, hb, -, hown, hts⟩ := id X
  have htab := vx_table (x := yL_man) B (hts _ List.mem_cons_self)
  have hl := lv_entry [Value.ref (zh y x0), Value.int x1, Value.ref ob] (n := 4) (Nat.le_of_ble_eq_true rfl)
  rw [lg_entry_eq]
  replace hl := (lv_sub hl [0, 1, 2] rfl : lv_has _ 4 [(0, .ref (zh y x0)), (1, .int x1), (2, .ref ob)])
  clear hv
  refine lv_aload_n hx hb dL_man_0 rfl (lv_at hl 2 rfl) ?_
  refine lv_iconst (v := (0 : Int32)) hx hb dL_man_1 (by decide) ?_
  refine lv_aload_n hx hb dL_man_2 rfl (lv_at hl 0 rfl) ?_
  refine lv_iload_n hx hb dL_man_3 rfl (lv_at hl 1 rfl) ?_
  refine L_xcalli (cells := 0) (slots := 0) X hM ha (c_X11_man hlt hf) gL_man_X11_man rfl ⟨rfl, rfl⟩ ⟨Nat.le_of_eq (Nat.zero_add _), Nat.le_of_eq (Nat.zero_add _)⟩ hd_X11_man ⟨Nat.le_of_ble_eq_true rfl, Nat.le_of_ble_eq_true rfl⟩ rfl hl.1 rfl (Nat.le_of_ble_eq_true rfl) dL_man_4 (fun k S1 H locs q9 ce hp hM h5 h6 h7 => ?_) (fun v S1 H locs hp hM => ?_)
  · obtain ⟨rfl, hp⟩ := hp
    refine vx_catch (own := RL) (name := xN 2) hown [] ⟨0, 9, 12, 19⟩ [] htab (fun z hz => nomatch hz) (by decide) (by decide) (hts _ lk_L_man_19) (va_Nw.use rfl (hX.1.1 _ (xN_in 2))) h5 h6 h7 ?_
    refine lv_astore_n (lv' := [(3, .ref q9), (0, .ref (zh y x0)), (1, .int x1), (2, .ref ob)]) hx hb dL_man_12 rfl hl (by decide) rfl (fun ls hl => ?_)
    refine lv_iconst (v := (1 : Int32)) hx hb dL_man_13 (by decide) ?_
    exact L_hret X hr hlocks hM hp ⟨Nat.le_of_eq (Nat.zero_add _), Nat.le_of_eq (Nat.zero_add _)⟩ dL_man_14
  refine lv_i2l (v := v.toInt64) hx hb dL_man_7 rfl ?_
  refine L_last X hM dL_man_8 (fun H locs F1 hF1 hM => ?_)
  replace hp := hp F1 hF1
  refine lv_goto (tgt := 15) hx hb dL_man_9 (by decide) ?_
  refine lv_iconst (v := (0 : Int32)) hx hb dL_man_15 (by decide) ?_
  exact L_hret X hr hlocks hM hp ⟨Nat.le_of_eq (Nat.zero_add _), Nat.le_of_eq (Nat.zero_add _)⟩ dL_man_16
theorem lk_L_add_13 : Cond.classLink RL 13 (xN 1) ∈ wsL_add := by decide +kernel
theorem lk_L_add_37 : Cond.classLink RL 37 (xN 3) ∈ wsL_add := by decide +kernel
set_option maxRecDepth 100000 in
set_option maxHeartbeats 4000000 in
theorem c_L_add {l : Launch} {D : va_G} {y : Nat → ClassId} {ob : Nat} {cJ : ClassId} {x0 : Nat} {x1 : Int32} {S : ZS} {F : Nat → Int64} {kc kt : Nat} {Pl : Int32 → (Nat → Int64) → ZS → Prop} (hlt : l.stackTraces = false) (ha : x0 ∈ zL S ∧ zK S x0 = 11) (hf : g_X11_add x0 x1 S kc kt (fun v S1 => ∀ F1 : Nat → Int64, F1 0 = v.toInt64 → Pl 0 F1 S1) (fun k S1 => (k = 1 ∧ Pl 1 F S1) ∨ (k = 3 ∧ Pl 2 F S1))) : LMi l yL_add wsL_add ({ frames := 7, cells := kc, slots := kt, locals := 153 } : Room) [.ref (zh y x0), .int x1, .ref ob] D y ob cJ S F kc kt Pl := by
  intro sz
  refine va_MetW (cc := cL_add) (maxL := 4) (ret := some .int) (hh := [(0, 9, 12, 13), (0, 9, 15, 37)]) (by decide) rfl ?_
  intro p e s m args below meth c s₁ B hml hv
  obtain ⟨rfl, hv⟩ := hv
  have hsz := hv.1
  subst hsz
  have hM := LB_start hv
  have hX := hv.2.2.2.2.2.2.2.1
  have hN := hv.2.2.2.2.2.2.2.2
  have hr := B.returns
  have hlocks := B.notSynchronized
  have X : CallFix p m c cL_add 4 s [Value.ref (zh y x0), Value.int x1, Value.ref ob].toArray wsL_add RL := ⟨B.exec, B.bytes, hml, findClass_of_methodNamed B.named, atoms_spec (ws := wsL_add) B.pre⟩
  obtain ⟨hx, hb, -, hown, hts⟩ := id X
  have htab := vx_table (x := yL_add) B (hts _ List.mem_cons_self)
  have hl := lv_entry [Value.ref (zh y x0), Value.int x1, Value.ref ob] (n := 4) (Nat.le_of_ble_eq_true rfl)
  rw [lg_entry_eq]
  replace hl := (lv_sub hl [0, 1, 2] rfl : lv_has _ 4 [(0, .ref (zh y x0)), (1, .int x1), (2, .ref ob)])
  clear hv
  refine lv_aload_n hx hb dL_add_0 rfl (lv_at hl 2 rfl) ?_
  refine lv_iconst (v := (0 : Int32)) hx hb dL_add_1 (by decide) ?_
  refine lv_aload_n hx hb dL_add_2 rfl (lv_at hl 0 rfl) ?_
  refine lv_iload_n hx hb dL_add_3 rfl (lv_at hl 1 rfl) ?_
  refine L_xcalli (cells := 0) (slots := 0) X hM ha (c_X11_add hlt hf) gL_add_X11_add rfl ⟨rfl, rfl⟩ ⟨Nat.le_of_eq (Nat.zero_add _), Nat.le_of_eq (Nat.zero_add _)⟩ hd_X11_add ⟨Nat.le_of_ble_eq_true rfl, Nat.le_of_ble_eq_true rfl⟩ rfl hl.1 rfl (Nat.le_of_ble_eq_true rfl) dL_add_4 (fun k S1 H locs q9 ce hp hM h5 h6 h7 => ?_) (fun v S1 H locs hp hM => ?_)
  · rcases hp with ⟨rfl, hp⟩ | ⟨rfl, hp⟩
    · refine vx_catch (own := RL) (name := xN 1) hown [] ⟨0, 9, 12, 13⟩ [⟨0, 9, 15, 37⟩] htab (fun z hz => nomatch hz) (by decide) (by decide) (hts _ lk_L_add_13) (va_Nw.use rfl (hX.1.1 _ (xN_in 1))) h5 h6 h7 ?_
      refine lv_astore_n (lv' := [(3, .ref q9), (0, .ref (zh y x0)), (1, .int x1), (2, .ref ob)]) hx hb dL_add_12 rfl hl (by decide) rfl (fun ls hl => ?_)
      refine lv_iconst (v := (1 : Int32)) hx hb dL_add_13 (by decide) ?_
      exact L_hret X hr hlocks hM hp ⟨Nat.le_of_eq (Nat.zero_add _), Nat.le_of_eq (Nat.zero_add _)⟩ dL_add_14
    · refine vx_catch (own := RL) (name := xN 3) hown [⟨0, 9, 12, 13⟩] ⟨0, 9, 15, 37⟩ [] htab (fun z hz => Or.inr (by rw [List.mem_singleton.mp hz]; exact ⟨by decide, xN 1, hts _ lk_L_add_13, hN.1⟩)) (by decide) (by decide) (hts _ lk_L_add_37) (va_Nw.use rfl (hX.1.1 _ (xN_in 3))) h5 h6 h7 ?_
      refine lv_astore_n (lv' := [(3, .ref q9), (0, .ref (zh y x0)), (1, .int x1), (2, .ref ob)]) hx hb dL_add_15 rfl hl (by decide) rfl (fun ls hl => ?_)
      refine lv_iconst (v := (2 : Int32)) hx hb dL_add_16 (by decide) ?_
      exact L_hret X hr hlocks hM hp ⟨Nat.le_of_eq (Nat.zero_add _), Nat.le_of_eq (Nat.zero_add _)⟩ dL_add_17
  refine lv_i2l (v := v.toInt64) hx hb dL_add_7 rfl ?_
  refine L_last X hM dL_add_8 (fun H locs F1 hF1 hM => ?_)
  replace hp := hp F1 hF1
  refine lv_goto (tgt := 18) hx hb dL_add_9 (by decide) ?_
  refine lv_iconst (v := (0 : Int32)) hx hb dL_add_18 (by decide) ?_
  exact L_hret X hr hlocks hM hp ⟨Nat.le_of_eq (Nat.zero_add _), Nat.le_of_eq (Nat.zero_add _)⟩ dL_add_19
theorem lk_L_addMark_13 : Cond.classLink RL 13 (xN 1) ∈ wsL_addMark := by decide +kernel
theorem lk_L_addMark_42 : Cond.classLink RL 42 (xN 4) ∈ wsL_addMark := by decide +kernel
set_option maxRecDepth 100000 in
set_option maxHeartbeats 4000000 in
theorem c_L_addMark {l : Launch} {D : va_G} {y : Nat → ClassId} {ob : Nat} {cJ : ClassId} {x0 : Nat} {x1 : Int32} {S : ZS} {F : Nat → Int64} {kc kt : Nat} {Pl : Int32 → (Nat → Int64) → ZS → Prop} (hlt : l.stackTraces = false) (ha : x0 ∈ zL S ∧ zK S x0 = 11) (hf : g_X11_addMark x0 x1 S kc kt (fun v S1 => ∀ F1 : Nat → Int64, F1 0 = v.toInt64 → Pl 0 F1 S1) (fun k S1 => (k = 1 ∧ Pl 1 F S1) ∨ (k = 4 ∧ Pl 2 F S1))) : LMi l yL_addMark wsL_addMark ({ frames := 7, cells := kc, slots := kt, locals := 112 } : Room) [.ref (zh y x0), .int x1, .ref ob] D y ob cJ S F kc kt Pl := by
  intro sz
  refine va_MetW (cc := cL_addMark) (maxL := 4) (ret := some .int) (hh := [(0, 9, 12, 13), (0, 9, 15, 42)]) (by decide) rfl ?_
  intro p e s m args below meth c s₁ B hml hv
  obtain ⟨rfl, hv⟩ := hv
  have hsz := hv.1
  subst hsz
  have hM := LB_start hv
  have hX := hv.2.2.2.2.2.2.2.1
  have hN := hv.2.2.2.2.2.2.2.2
  have hr := B.returns
  have hlocks := B.notSynchronized
  have X : CallFix p m c cL_addMark 4 s [Value.ref (zh y x0), Value.int x1, Value.ref ob].toArray wsL_addMark RL := ⟨B.exec, B.bytes, hml, findClass_of_methodNamed B.named, atoms_spec (ws := wsL_addMark) B.pre⟩
  obtain ⟨hx, hb, -, hown, hts⟩ := id X
  have htab := vx_table (x := yL_addMark) B (hts _ List.mem_cons_self)
  have hl := lv_entry [Value.ref (zh y x0), Value.int x1, Value.ref ob] (n := 4) (Nat.le_of_ble_eq_true rfl)
  rw [lg_entry_eq]
  replace hl := (lv_sub hl [0, 1, 2] rfl : lv_has _ 4 [(0, .ref (zh y x0)), (1, .int x1), (2, .ref ob)])
  clear hv
  refine lv_aload_n hx hb dL_addMark_0 rfl (lv_at hl 2 rfl) ?_
  refine lv_iconst (v := (0 : Int32)) hx hb dL_addMark_1 (by decide) ?_
  refine lv_aload_n hx hb dL_addMark_2 rfl (lv_at hl 0 rfl) ?_
  refine lv_iload_n hx hb dL_addMark_3 rfl (lv_at hl 1 rfl) ?_
  refine L_xcalli (cells := 0) (slots := 0) X hM ha (c_X11_addMark hlt hf) gL_addMark_X11_addMark rfl ⟨rfl, rfl⟩ ⟨Nat.le_of_eq (Nat.zero_add _), Nat.le_of_eq (Nat.zero_add _)⟩ hd_X11_addMark ⟨Nat.le_of_ble_eq_true rfl, Nat.le_of_ble_eq_true rfl⟩ rfl hl.1 rfl (Nat.le_of_ble_eq_true rfl) dL_addMark_4 (fun k S1 H locs q9 ce hp hM h5 h6 h7 => ?_) (fun v S1 H locs hp hM => ?_)
  · rcases hp with ⟨rfl, hp⟩ | ⟨rfl, hp⟩
    · refine vx_catch (own := RL) (name := xN 1) hown [] ⟨0, 9, 12, 13⟩ [⟨0, 9, 15, 42⟩] htab (fun z hz => nomatch hz) (by decide) (by decide) (hts _ lk_L_addMark_13) (va_Nw.use rfl (hX.1.1 _ (xN_in 1))) h5 h6 h7 ?_
      refine lv_astore_n (lv' := [(3, .ref q9), (0, .ref (zh y x0)), (1, .int x1), (2, .ref ob)]) hx hb dL_addMark_12 rfl hl (by decide) rfl (fun ls hl => ?_)
      refine lv_iconst (v := (1 : Int32)) hx hb dL_addMark_13 (by decide) ?_
      exact L_hret X hr hlocks hM hp ⟨Nat.le_of_eq (Nat.zero_add _), Nat.le_of_eq (Nat.zero_add _)⟩ dL_addMark_14
    · refine vx_catch (own := RL) (name := xN 4) hown [⟨0, 9, 12, 13⟩] ⟨0, 9, 15, 42⟩ [] htab (fun z hz => Or.inr (by rw [List.mem_singleton.mp hz]; exact ⟨by decide, xN 1, hts _ lk_L_addMark_13, hN.2⟩)) (by decide) (by decide) (hts _ lk_L_addMark_42) (va_Nw.use rfl (hX.1.1 _ (xN_in 4))) h5 h6 h7 ?_
      refine lv_astore_n (lv' := [(3, .ref q9), (0, .ref (zh y x0)), (1, .int x1), (2, .ref ob)]) hx hb dL_addMark_15 rfl hl (by decide) rfl (fun ls hl => ?_)
      refine lv_iconst (v := (2 : Int32)) hx hb dL_addMark_16 (by decide) ?_
      exact L_hret X hr hlocks hM hp ⟨Nat.le_of_eq (Nat.zero_add _), Nat.le_of_eq (Nat.zero_add _)⟩ dL_addMark_17
  refine lv_i2l (v := v.toInt64) hx hb dL_addMark_7 rfl ?_
  refine L_last X hM dL_addMark_8 (fun H locs F1 hF1 hM => ?_)
  replace hp := hp F1 hF1
  refine lv_goto (tgt := 18) hx hb dL_addMark_9 (by decide) ?_
  refine lv_iconst (v := (0 : Int32)) hx hb dL_addMark_18 (by decide) ?_
  exact L_hret X hr hlocks hM hp ⟨Nat.le_of_eq (Nat.zero_add _), Nat.le_of_eq (Nat.zero_add _)⟩ dL_addMark_19
theorem lk_L_say_13 : Cond.classLink RL 13 (xN 1) ∈ wsL_say := by decide +kernel
set_option maxRecDepth 100000 in
set_option maxHeartbeats 4000000 in
theorem c_L_say {l : Launch} {D : va_G} {y : Nat → ClassId} {ob : Nat} {cJ : ClassId} {x0 : Nat} {S : ZS} {F : Nat → Int64} {kc kt : Nat} {Pl : Int32 → (Nat → Int64) → ZS → Prop} (hlt : l.stackTraces = false) (ha : x0 ∈ zL S ∧ zK S x0 = 11) (hf : g_X11_say x0 S kc kt (fun v S1 => ∀ F1 : Nat → Int64, F1 0 = v.toInt64 → Pl 0 F1 S1) (fun k S1 => (k = 1 ∧ Pl 1 F S1))) : LMi l yL_say wsL_say ({ frames := 7, cells := kc, slots := kt, locals := 146 } : Room) [.ref (zh y x0), .ref ob] D y ob cJ S F kc kt Pl := by
  intro sz
  refine va_MetW (cc := cL_say) (maxL := 3) (ret := some .int) (hh := [(0, 8, 11, 13)]) (by decide) rfl ?_
  intro p e s m args below meth c s₁ B hml hv
  obtain ⟨rfl, hv⟩ := hv
  have hsz := hv.1
  subst hsz
  have hM := LB_start hv
  have hX := hv.2.2.2.2.2.2.2.1
  have hN := hv.2.2.2.2.2.2.2.2
  have hr := B.returns
  have hlocks := B.notSynchronized
  have X : CallFix p m c cL_say 3 s [Value.ref (zh y x0), Value.ref ob].toArray wsL_say RL := ⟨B.exec, B.bytes, hml, findClass_of_methodNamed B.named, atoms_spec (ws := wsL_say) B.pre⟩
  obtain ⟨hx, hb, -, hown, hts⟩ := id X
  have htab := vx_table (x := yL_say) B (hts _ List.mem_cons_self)
  have hl := lv_entry [Value.ref (zh y x0), Value.ref ob] (n := 3) (Nat.le_of_ble_eq_true rfl)
  rw [lg_entry_eq]
  replace hl := (lv_sub hl [0, 1] rfl : lv_has _ 3 [(0, .ref (zh y x0)), (1, .ref ob)])
  clear hv
  refine lv_aload_n hx hb dL_say_0 rfl (lv_at hl 1 rfl) ?_
  refine lv_iconst (v := (0 : Int32)) hx hb dL_say_1 (by decide) ?_
  refine lv_aload_n hx hb dL_say_2 rfl (lv_at hl 0 rfl) ?_
  refine L_xcalli (cells := 0) (slots := 0) X hM ha (c_X11_say hlt hf) gL_say_X11_say rfl ⟨rfl, rfl⟩ ⟨Nat.le_of_eq (Nat.zero_add _), Nat.le_of_eq (Nat.zero_add _)⟩ hd_X11_say ⟨Nat.le_of_ble_eq_true rfl, Nat.le_of_ble_eq_true rfl⟩ rfl hl.1 rfl (Nat.le_of_ble_eq_true rfl) dL_say_3 (fun k S1 H locs q9 ce hp hM h5 h6 h7 => ?_) (fun v S1 H locs hp hM => ?_)
  · obtain ⟨rfl, hp⟩ := hp
    refine vx_catch (own := RL) (name := xN 1) hown [] ⟨0, 8, 11, 13⟩ [] htab (fun z hz => nomatch hz) (by decide) (by decide) (hts _ lk_L_say_13) (va_Nw.use rfl (hX.1.1 _ (xN_in 1))) h5 h6 h7 ?_
    refine lv_astore_n (lv' := [(2, .ref q9), (0, .ref (zh y x0)), (1, .ref ob)]) hx hb dL_say_11 rfl hl (by decide) rfl (fun ls hl => ?_)
    refine lv_iconst (v := (1 : Int32)) hx hb dL_say_12 (by decide) ?_
    exact L_hret X hr hlocks hM hp ⟨Nat.le_of_eq (Nat.zero_add _), Nat.le_of_eq (Nat.zero_add _)⟩ dL_say_13
  refine lv_i2l (v := v.toInt64) hx hb dL_say_6 rfl ?_
  refine L_last X hM dL_say_7 (fun H locs F1 hF1 hM => ?_)
  replace hp := hp F1 hF1
  refine lv_goto (tgt := 14) hx hb dL_say_8 (by decide) ?_
  refine lv_iconst (v := (0 : Int32)) hx hb dL_say_14 (by decide) ?_
  exact L_hret X hr hlocks hM hp ⟨Nat.le_of_eq (Nat.zero_add _), Nat.le_of_eq (Nat.zero_add _)⟩ dL_say_15
theorem lk_L_lead_42 : Cond.classLink RL 42 (xN 4) ∈ wsL_lead := by decide +kernel
set_option maxRecDepth 100000 in
set_option maxHeartbeats 4000000 in
theorem c_L_lead {l : Launch} {D : va_G} {y : Nat → ClassId} {ob : Nat} {cJ : ClassId} {x0 : Nat} {S : ZS} {F : Nat → Int64} {kc kt : Nat} {Pl : Int32 → (Nat → Int64) → ZS → Prop} (hlt : l.stackTraces = false) (ha : x0 ∈ zL S ∧ zK S x0 = 11) (hf : g_X11_lead x0 S kc kt (fun v S1 => ∀ F1 : Nat → Int64, F1 0 = (if v = 0 then 0 else 1) → Pl 0 F1 S1) (fun k S1 => (k = 4 ∧ Pl 1 F S1))) : LMi l yL_lead wsL_lead ({ frames := 7, cells := kc, slots := kt, locals := 110 } : Room) [.ref (zh y x0), .ref ob] D y ob cJ S F kc kt Pl := by
  intro sz
  refine va_MetW (cc := cL_lead) (maxL := 3) (ret := some .int) (hh := [(0, 15, 18, 42)]) (by decide) rfl ?_
  intro p e s m args below meth c s₁ B hml hv
  obtain ⟨rfl, hv⟩ := hv
  have hsz := hv.1
  subst hsz
  have hM := LB_start hv
  have hX := hv.2.2.2.2.2.2.2.1
  have hN := hv.2.2.2.2.2.2.2.2
  have hr := B.returns
  have hlocks := B.notSynchronized
  have X : CallFix p m c cL_lead 3 s [Value.ref (zh y x0), Value.ref ob].toArray wsL_lead RL := ⟨B.exec, B.bytes, hml, findClass_of_methodNamed B.named, atoms_spec (ws := wsL_lead) B.pre⟩
  obtain ⟨hx, hb, -, hown, hts⟩ := id X
  have htab := vx_table (x := yL_lead) B (hts _ List.mem_cons_self)
  have hl := lv_entry [Value.ref (zh y x0), Value.ref ob] (n := 3) (Nat.le_of_ble_eq_true rfl)
  rw [lg_entry_eq]
  replace hl := (lv_sub hl [0, 1] rfl : lv_has _ 3 [(0, .ref (zh y x0)), (1, .ref ob)])
  clear hv
  refine lv_aload_n hx hb dL_lead_0 rfl (lv_at hl 1 rfl) ?_
  refine lv_iconst (v := (0 : Int32)) hx hb dL_lead_1 (by decide) ?_
  refine lv_aload_n hx hb dL_lead_2 rfl (lv_at hl 0 rfl) ?_
  refine L_xcalli (cells := 0) (slots := 0) X hM ha (c_X11_lead hlt hf) gL_lead_X11_lead rfl ⟨rfl, rfl⟩ ⟨Nat.le_of_eq (Nat.zero_add _), Nat.le_of_eq (Nat.zero_add _)⟩ hd_X11_lead ⟨Nat.le_of_ble_eq_true rfl, Nat.le_of_ble_eq_true rfl⟩ rfl hl.1 rfl (Nat.le_of_ble_eq_true rfl) dL_lead_3 (fun k S1 H locs q9 ce hp hM h5 h6 h7 => ?_) (fun v S1 H locs hp hM => ?_)
  · obtain ⟨rfl, hp⟩ := hp
    refine vx_catch (own := RL) (name := xN 4) hown [] ⟨0, 15, 18, 42⟩ [] htab (fun z hz => nomatch hz) (by decide) (by decide) (hts _ lk_L_lead_42) (va_Nw.use rfl (hX.1.1 _ (xN_in 4))) h5 h6 h7 ?_
    refine lv_astore_n (lv' := [(2, .ref q9), (0, .ref (zh y x0)), (1, .ref ob)]) hx hb dL_lead_18 rfl hl (by decide) rfl (fun ls hl => ?_)
    refine lv_iconst (v := (1 : Int32)) hx hb dL_lead_19 (by decide) ?_
    exact L_hret X hr hlocks hM hp ⟨Nat.le_of_eq (Nat.zero_add _), Nat.le_of_eq (Nat.zero_add _)⟩ dL_lead_20
  refine lv_if_eq (tgt := 13) hx hb dL_lead_6 (by decide) (fun cc1 => ?_) (fun cc1 => ?_)
  · refine lv_lconst (v := (0 : Int64)) hx hb dL_lead_13 (by decide) ?_
    refine L_last X hM dL_lead_14 (fun H locs F1 hF1 hM => ?_)
    replace hp := hp F1 (by rw [hF1]; exact (if_pos cc1).symm)
    refine lv_goto (tgt := 21) hx hb dL_lead_15 (by decide) ?_
    refine lv_iconst (v := (0 : Int32)) hx hb dL_lead_21 (by decide) ?_
    exact L_hret X hr hlocks hM hp ⟨Nat.le_of_eq (Nat.zero_add _), Nat.le_of_eq (Nat.zero_add _)⟩ dL_lead_22
  · refine lv_lconst (v := (1 : Int64)) hx hb dL_lead_9 (by decide) ?_
    refine lv_goto (tgt := 14) hx hb dL_lead_10 (by decide) ?_
    refine L_last X hM dL_lead_14 (fun H locs F1 hF1 hM => ?_)
    replace hp := hp F1 (by rw [hF1]; exact (if_neg cc1).symm)
    refine lv_goto (tgt := 21) hx hb dL_lead_15 (by decide) ?_
    refine lv_iconst (v := (0 : Int32)) hx hb dL_lead_21 (by decide) ?_
    exact L_hret X hr hlocks hM hp ⟨Nat.le_of_eq (Nat.zero_add _), Nat.le_of_eq (Nat.zero_add _)⟩ dL_lead_22
theorem lk_L_end_13 : Cond.classLink RL 13 (xN 1) ∈ wsL_end := by decide +kernel
set_option maxRecDepth 100000 in
set_option maxHeartbeats 4000000 in
theorem c_L_end {l : Launch} {D : va_G} {y : Nat → ClassId} {ob : Nat} {cJ : ClassId} {x0 : Nat} {x1 : Int32} {S : ZS} {F : Nat → Int64} {kc kt : Nat} {Pl : Int32 → (Nat → Int64) → ZS → Prop} (hlt : l.stackTraces = false) (ha : x0 ∈ zL S ∧ zK S x0 = 11) (hf : g_X11_end x0 x1 S kc kt (fun _ S1 => Pl 0 F S1) (fun k S1 => (k = 1 ∧ Pl 1 F S1))) : LMi l yL_end wsL_end ({ frames := 7, cells := kc, slots := kt, locals := 111 } : Room) [.ref (zh y x0), .int x1] D y ob cJ S F kc kt Pl := by
  intro sz
  refine va_MetW (cc := cL_end) (maxL := 3) (ret := some .int) (hh := [(0, 5, 8, 13)]) (by decide) rfl ?_
  intro p e s m args below meth c s₁ B hml hv
  obtain ⟨rfl, hv⟩ := hv
  have hsz := hv.1
  subst hsz
  have hM := LB_start hv
  have hX := hv.2.2.2.2.2.2.2.1
  have hN := hv.2.2.2.2.2.2.2.2
  have hr := B.returns
  have hlocks := B.notSynchronized
  have X : CallFix p m c cL_end 3 s [Value.ref (zh y x0), Value.int x1].toArray wsL_end RL := ⟨B.exec, B.bytes, hml, findClass_of_methodNamed B.named, atoms_spec (ws := wsL_end) B.pre⟩
  obtain ⟨hx, hb, -, hown, hts⟩ := id X
  have htab := vx_table (x := yL_end) B (hts _ List.mem_cons_self)
  have hl := lv_entry [Value.ref (zh y x0), Value.int x1] (n := 3) (Nat.le_of_ble_eq_true rfl)
  rw [lg_entry_eq]
  replace hl := (lv_sub hl [0, 1] rfl : lv_has _ 3 [(0, .ref (zh y x0)), (1, .int x1)])
  clear hv
  refine lv_aload_n hx hb dL_end_0 rfl (lv_at hl 0 rfl) ?_
  refine lv_iload_n hx hb dL_end_1 rfl (lv_at hl 1 rfl) ?_
  refine L_xcallv (cells := 0) (slots := 0) X hM ha (c_X11_end hlt hf) gL_end_X11_end rfl ⟨rfl, rfl⟩ ⟨Nat.le_of_eq (Nat.zero_add _), Nat.le_of_eq (Nat.zero_add _)⟩ hd_X11_end ⟨Nat.le_of_ble_eq_true rfl, Nat.le_of_ble_eq_true rfl⟩ rfl hl.1 rfl (Nat.le_of_ble_eq_true rfl) dL_end_2 (fun k S1 H locs q9 ce hp hM h5 h6 h7 => ?_) (fun S1 H locs hp hM => ?_)
  · obtain ⟨rfl, hp⟩ := hp
    refine vx_catch (own := RL) (name := xN 1) hown [] ⟨0, 5, 8, 13⟩ [] htab (fun z hz => nomatch hz) (by decide) (by decide) (hts _ lk_L_end_13) (va_Nw.use rfl (hX.1.1 _ (xN_in 1))) h5 h6 h7 ?_
    refine lv_astore_n (lv' := [(2, .ref q9), (0, .ref (zh y x0)), (1, .int x1)]) hx hb dL_end_8 rfl hl (by decide) rfl (fun ls hl => ?_)
    refine lv_iconst (v := (1 : Int32)) hx hb dL_end_9 (by decide) ?_
    exact L_hret X hr hlocks hM hp ⟨Nat.le_of_eq (Nat.zero_add _), Nat.le_of_eq (Nat.zero_add _)⟩ dL_end_10
  refine lv_goto (tgt := 11) hx hb dL_end_5 (by decide) ?_
  refine lv_iconst (v := (0 : Int32)) hx hb dL_end_11 (by decide) ?_
  exact L_hret X hr hlocks hM hp ⟨Nat.le_of_eq (Nat.zero_add _), Nat.le_of_eq (Nat.zero_add _)⟩ dL_end_12
theorem lk_L_tag_19 : Cond.classLink RL 19 (xN 2) ∈ wsL_tag := by decide +kernel
set_option maxRecDepth 100000 in
set_option maxHeartbeats 4000000 in
theorem c_L_tag {l : Launch} {D : va_G} {y : Nat → ClassId} {ob : Nat} {cJ : ClassId} {x0 : Nat} {x1 : Int32} {x2 : Int32} {x3 : Int32} {S : ZS} {F : Nat → Int64} {kc kt : Nat} {Pl : Int32 → (Nat → Int64) → ZS → Prop} (hlt : l.stackTraces = false) (ha : x0 ∈ zL S ∧ zK S x0 = 11) (hf : g_X11_tag x0 x1 x2 x3 S kc kt (fun v S1 => ∀ F1 : Nat → Int64, F1 0 = v.toInt64 → Pl 0 F1 S1) (fun k S1 => (k = 2 ∧ Pl 1 F S1))) : LMi l yL_tag wsL_tag ({ frames := 7, cells := kc, slots := kt, locals := 114 } : Room) [.ref (zh y x0), .int x1, .int x2, .int x3, .ref ob] D y ob cJ S F kc kt Pl := by
  intro sz
  refine va_MetW (cc := cL_tag) (maxL := 6) (ret := some .int) (hh := [(0, 12, 15, 19)]) (by decide) rfl ?_
  intro p e s m args below meth c s₁ B hml hv
  obtain ⟨rfl, hv⟩ := hv
  have hsz := hv.1
  subst hsz
  have hM := LB_start hv
  have hX := hv.2.2.2.2.2.2.2.1
  have hN := hv.2.2.2.2.2.2.2.2
  have hr := B.returns
  have hlocks := B.notSynchronized
  have X : CallFix p m c cL_tag 6 s [Value.ref (zh y x0), Value.int x1, Value.int x2, Value.int x3, Value.ref ob].toArray wsL_tag RL := ⟨B.exec, B.bytes, hml, findClass_of_methodNamed B.named, atoms_spec (ws := wsL_tag) B.pre⟩
  obtain ⟨hx, hb, -, hown, hts⟩ := id X
  have htab := vx_table (x := yL_tag) B (hts _ List.mem_cons_self)
  have hl := lv_entry [Value.ref (zh y x0), Value.int x1, Value.int x2, Value.int x3, Value.ref ob] (n := 6) (Nat.le_of_ble_eq_true rfl)
  rw [lg_entry_eq]
  replace hl := (lv_sub hl [0, 1, 2, 3, 4] rfl : lv_has _ 6 [(0, .ref (zh y x0)), (1, .int x1), (2, .int x2), (3, .int x3), (4, .ref ob)])
  clear hv
  refine lv_aload hx hb dL_tag_0 (lv_at hl 4 rfl) ?_
  refine lv_iconst (v := (0 : Int32)) hx hb dL_tag_2 (by decide) ?_
  refine lv_aload_n hx hb dL_tag_3 rfl (lv_at hl 0 rfl) ?_
  refine lv_iload_n hx hb dL_tag_4 rfl (lv_at hl 1 rfl) ?_
  refine lv_iload_n hx hb dL_tag_5 rfl (lv_at hl 2 rfl) ?_
  refine lv_iload_n hx hb dL_tag_6 rfl (lv_at hl 3 rfl) ?_
  refine L_xcalli (cells := 0) (slots := 0) X hM ha (c_X11_tag hlt hf) gL_tag_X11_tag rfl ⟨rfl, rfl⟩ ⟨Nat.le_of_eq (Nat.zero_add _), Nat.le_of_eq (Nat.zero_add _)⟩ hd_X11_tag ⟨Nat.le_of_ble_eq_true rfl, Nat.le_of_ble_eq_true rfl⟩ rfl hl.1 rfl (Nat.le_of_ble_eq_true rfl) dL_tag_7 (fun k S1 H locs q9 ce hp hM h5 h6 h7 => ?_) (fun v S1 H locs hp hM => ?_)
  · obtain ⟨rfl, hp⟩ := hp
    refine vx_catch (own := RL) (name := xN 2) hown [] ⟨0, 12, 15, 19⟩ [] htab (fun z hz => nomatch hz) (by decide) (by decide) (hts _ lk_L_tag_19) (va_Nw.use rfl (hX.1.1 _ (xN_in 2))) h5 h6 h7 ?_
    refine lv_astore (lv' := [(5, .ref q9), (0, .ref (zh y x0)), (1, .int x1), (2, .int x2), (3, .int x3), (4, .ref ob)]) hx hb dL_tag_15 hl (by decide) rfl (fun ls hl => ?_)
    refine lv_iconst (v := (1 : Int32)) hx hb dL_tag_17 (by decide) ?_
    exact L_hret X hr hlocks hM hp ⟨Nat.le_of_eq (Nat.zero_add _), Nat.le_of_eq (Nat.zero_add _)⟩ dL_tag_18
  refine lv_i2l (v := v.toInt64) hx hb dL_tag_10 rfl ?_
  refine L_last X hM dL_tag_11 (fun H locs F1 hF1 hM => ?_)
  replace hp := hp F1 hF1
  refine lv_goto (tgt := 19) hx hb dL_tag_12 (by decide) ?_
  refine lv_iconst (v := (0 : Int32)) hx hb dL_tag_19 (by decide) ?_
  exact L_hret X hr hlocks hM hp ⟨Nat.le_of_eq (Nat.zero_add _), Nat.le_of_eq (Nat.zero_add _)⟩ dL_tag_20
