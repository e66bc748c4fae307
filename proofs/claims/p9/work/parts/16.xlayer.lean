def xN (k : Nat) : String := if k = 1 then "java/lang/IllegalArgumentException" else if k = 2 then "java/lang/IndexOutOfBoundsException" else if k = 3 then "java/lang/UnsupportedOperationException" else "java/lang/IllegalStateException"
abbrev xNs : List String := ["java/lang/RuntimeException", "java/lang/Exception"]
def xEs : List String := ["java/lang/IllegalArgumentException", "java/lang/IndexOutOfBoundsException", "java/lang/UnsupportedOperationException", "java/lang/IllegalStateException"]
theorem xN_in (k : Nat) : xN k ∈ xEs := by
  unfold xN xEs
  by_cases h1 : k = 1
  · rw [if_pos h1]; decide
  · rw [if_neg h1]
    by_cases h2 : k = 2
    · rw [if_pos h2]; decide
    · rw [if_neg h2]
      by_cases h3 : k = 3
      · rw [if_pos h3]; decide
      · rw [if_neg h3]; decide
theorem xN_fit (k : Nat) : Bundle.fit (xN k) = true := by
  have h : ∀ E ∈ xEs, Bundle.fit E = true := by decide +kernel
  exact h _ (xN_in k)
theorem xNs_fit : ∀ n ∈ xNs, Bundle.fit n = true := by decide +kernel
/-- j numbers are left out -/
def zsK (S : ZS) (j : Nat) : ZS := (zL S, zK S, zI S, zP S, zN S, zA S, zB S, zc S, zt S + j, zu S + 6)
theorem zW_k (y : Nat → ClassId) (S : ZS) (j : Nat) : zW y (zsK S j) = zW y S := rfl
theorem zG_k {y : Nat → ClassId} {S : ZS} {n n' : Nat} (hg : zG y S n) (h : n ≤ n') : zG y (zsK S (n' - n)) n' := by
  obtain ⟨g1, g2, g3, g4, g5⟩ := hg
  refine ⟨g1, g2, Nat.lt_of_lt_of_le g3 (Nat.le_add_right _ _), ?_, g5⟩
  show n' = y 52 + (zt S + (n' - n))
  omega
/-- what a throw needs of the world around -/
def xDs : List String := ["java/lang/RuntimeException", "java/lang/Exception", Bundle.tN]
def zX (A : Nat → Prop) (U : State) (H : Heap) : Prop := ((∀ E ∈ xEs, va_Nw (.castable E E) U) ∧ ∀ E ∈ xDs, va_Nw (.declares (Bundle.initS E)) U) ∧ vx_Zq Bundle.tN "UNASSIGNED_STACK" Bundle.steD A U H ∧ vx_Zq Bundle.tN "SUPPRESSED_SENTINEL" Bundle.listD A U H
theorem zX_call {A0 A1 : Nat → Prop} {s U : State} {H : Heap} {locs : List Loc} (h : zX A0 s s.heap) (hS : va_S A0 s.heap H locs) (hA : ∀ q, A1 q → A0 q) (hU : U.heap = H) (hW : s.WarmedH U.vm) : zX A1 U U.heap := by
  obtain ⟨⟨h1, h0⟩, h2, h3⟩ := h
  rw [hU]
  exact ⟨⟨fun E hE => (h1 E hE).warmC hW, fun E hE => (h0 E hE).warmD hW⟩, vx_Zq.moved hW.alike ((h2.kept hS.2.1).narrow hA), vx_Zq.moved hW.alike ((h3.kept hS.2.1).narrow hA)⟩
theorem zX_blind {A : Nat → Prop} {U : State} {g : JFrame} {mk : MethodId} {a : Array Value} (h : zX A U U.heap) : zX A (U.calling g mk a) (U.calling g mk a).heap := by
  obtain ⟨⟨h1, h0⟩, h2, h3⟩ := h
  have hr : U.vm.Alike (U.calling g mk a).vm := Vm.Alike.refl U.vm
  exact ⟨⟨fun E hE => va_Nw.same rfl rfl (h1 E hE), fun E hE => va_Nw.same rfl rfl (h0 E hE)⟩, vx_Zq.moved hr h2, vx_Zq.moved hr h3⟩
def zB1 (D : va_G) (y : Nat → ClassId) (S : ZS) (sz : Nat) : State → Prop := fun U => zB0 D y S sz U ∧ zX (va_A (zW y S) sz) U U.heap
/-- what a thrown end leaves -/
abbrev zXX (D : va_G) (y : Nat → ClassId) (S : ZS) (sz : Nat) (Px : Nat → ZS → Prop) : String → State → State → Prop := vx_X (fun (u : Nat × ZS) => Px u.1 u.2) (fun E u t => E = xN u.1 ∧ va_P D vwCl (zW y u.2) t.heap ∧ va_D (va_A (zW y S) sz) (zW y u.2) ∧ zG y u.2 t.heap.size) (va_A (zW y S) sz)
/-- a method of the class that answers an int or throws -/
def zXi (l : Launch) (q : MethodName) (ws : List Cond) (rm : Room) (av : List Value) (D : va_G) (y : Nat → ClassId) (S : ZS) (mc ms : Nat) (Pw : Int32 → ZS → Prop) (Px : Nat → ZS → Prop) : Prop :=
  ∀ sz : Nat, vx_Met l q ws rm (va_Pc av (zB1 D y S sz)) (va_Qi (fun (r : Int32) (u : ZS) => Pw r u) (fun u t => va_P D vwCl (zW y u) t.heap ∧ va_D (va_A (zW y S) sz) (zW y u) ∧ zG y u t.heap.size) (va_A (zW y S) sz)) (zXX D y S sz Px) mc ms (va_A (zW y S) sz)
def zXv (l : Launch) (q : MethodName) (ws : List Cond) (rm : Room) (av : List Value) (D : va_G) (y : Nat → ClassId) (S : ZS) (mc ms : Nat) (Pw : Int32 → ZS → Prop) (Px : Nat → ZS → Prop) : Prop :=
  ∀ sz : Nat, vx_Met l q ws rm (va_Pc av (zB1 D y S sz)) (va_Qv (fun (u : ZS) => Pw 0 u) (fun u t => va_P D vwCl (zW y u) t.heap ∧ va_D (va_A (zW y S) sz) (zW y u) ∧ zG y u t.heap.size) (va_A (zW y S) sz)) (zXX D y S sz Px) mc ms (va_A (zW y S) sz)
def zTx (own : String) (Ts : List Cond) (k ik ic : Nat) : Prop := (Cond.classLink own ik (xN k) ∈ Ts ∧ Cond.initialized (xN k) ∈ Ts) ∧ (∀ w ∈ (vx_atS own ic (xN k) xNs).filter goodWord, w ∈ Ts) ∧ (∀ w ∈ (vx_atS own ic (xN k) xNs).filter (fun w => !goodWord w), w ∈ [Cond.castable (xN k) (xN k), Cond.declares (Bundle.initS "java/lang/RuntimeException"), Cond.declares (Bundle.initS "java/lang/Exception"), Cond.declares (Bundle.initS Bundle.tN)]) ∧ ∀ w ∈ Cond.classLink own ik (xN k) :: Cond.initialized (xN k) :: vx_atS own ic (xN k) xNs, vx_ot w = true
def zTd (cc : ByteArray) (pc ik is ic : Nat) : Prop := decode cc pc = .ok (.new ik, 3) ∧ decode cc (pc + 3) = .ok (.dup, 1) ∧ ((decode cc (pc + 4) = .ok (.ldc is, 2) ∧ decode cc (pc + 6) = .ok (.invokespecial ic, 3) ∧ decode cc (pc + 9) = .ok (.athrow, 1)) ∨ (decode cc (pc + 4) = .ok (.ldc_w is, 3) ∧ decode cc (pc + 7) = .ok (.invokespecial ic, 3) ∧ decode cc (pc + 10) = .ok (.athrow, 1)))
def m_thrP (C T k : Nat) (S : ZS) (Px : Nat → ZS → Prop) : Prop := (1 ≤ C ∧ 6 ≤ T) ∧ ∀ j, Px k (zsK S j)
def zQx (p : Program) (l : Launch) (e : Env) (R : Room) (s : State) (m : MethodId) (args : Array Value) (below : List Frame) (meth : Method) (c : Code) (Q : State → Prop) (cc : ByteArray) (D : va_G) (y : Nat → ClassId) (A0 : Nat → Prop) (Px : Nat → ZS → Prop) (own : String) (Ts : List Cond) : Prop :=
  ∀ (k : Nat) (S : ZS) (C T : Nat) (H : Heap) (locs : List Loc) (pc ik is ic : Nat) (ls : Array Slot) (text : String) (sa : Nat), m_thrP C T k S Px → C ≤ R.cells ∧ T ≤ R.slots → zH D y A0 s H locs S → ls.size = c.maxLocals → zTx own Ts k ik ic → (own, is, text, sa) ∈ zSR → zTd cc pc ik is ic → W p l e R s m args below meth c H locs (R.cells - C) (R.slots - T) Q (F0 m pc ls [])
section XL
variable {p : Program} {l : Launch} {e : Env} {R : Room} {s : State} {m : MethodId} {args : Array Value} {below : List Frame} {meth : Method} {c : Code} {cc : ByteArray} {nL : Nat} {D : va_G} {Ts : List Cond} {y : Nat → ClassId} {S0 : ZS} {own : String} {Qc : Array Value → State → Outcome → State → Prop} {Px : Nat → ZS → Prop}
theorem z_thr (X : CallFix p m c cc nL s args Ts own) (hl : l.stackTraces = false) (hxt : ∀ x ∈ c.exceptionTable.toList, False) (hlocks : meth.locks = false) (hZ : zX (va_A (zW y S0) s.heap.size) s s.heap) (hR : 6 ≤ R.frames ∧ 90 ≤ R.locals) :
    zQx p l e R s m args below meth c (vx_MQ below Qc (zXX D y S0 s.heap.size Px) args s R.cells R.slots (va_A (zW y S0) s.heap.size)) cc D y (va_A (zW y S0) s.heap.size) Px own Ts := by
  intro k S C T H locs pc ik is ic ls text sa hp hCT hM hls hT hsr hd
  obtain ⟨⟨hC1, hT1⟩, hp⟩ := hp
  obtain ⟨⟨t1, t2⟩, t3, t4, t5⟩ := hT
  have hat : ∀ w ∈ vx_atS own ic (xN k) xNs, w.before args s = true := vx_hat (fun w hw => X.2.2.2.2 _ (t3 w hw)) t4 (vx_c (va_Nw.use rfl (hZ.1.1 _ (xN_in k))) (vx_c (va_Nw.use rfl (hZ.1.2 _ (by decide))) (vx_c (va_Nw.use rfl (hZ.1.2 _ (by decide))) (vx_c (va_Nw.use rfl (hZ.1.2 _ (by decide))) vx_n))))
  have hstr : vk_R own is text (y (100 + sa)) s := hM.2.2.2.2.2.1.2.2.1 _ hsr
  have hx : ∀ t : State, s.vm.Alike t.vm → H.size ≤ t.heap.size → (∀ q : Nat, q < H.size → t.heap[q]? = H[q]?) → zXX D y S0 s.heap.size Px (xN k) s t := by
    intro t hA hz hq
    refine ⟨(k, zsK S (t.heap.size - H.size)), hp _, ⟨rfl, ?_, ?_, zG_k hM.2.2.2.2.2.2 hz⟩, ?_, ?_⟩
    · show va_P D vwCl (zW y S) t.heap
      exact hM.1.kept (fun k x hx => hq x.1 ((hM.1 k x hx).lt))
    · show va_D _ (zW y S)
      exact hM.2.1
    · exact Nat.le_trans hM.2.2.1.1 hz
    · intro q h1 h2
      rw [hq q (Nat.lt_of_lt_of_le h1 hM.2.2.1.1)]
      exact hM.2.2.1.2.1 q h1 h2
  have hf : xNs.length + 3 < R.frames := Nat.lt_of_lt_of_le (show 2 + 3 < 6 by decide) hR.1
  have hlo : ((([] : List Value).map fun v => v.category).sum + (13 * (xNs.length + 1) + 43)) ≤ R.locals := Nat.le_trans (show 0 + (13 * (2 + 1) + 43) ≤ 90 by decide) hR.2
  obtain ⟨d0, d3, ⟨d4, d6, d9⟩ | ⟨d4, d6, d9⟩⟩ := hd
  · exact vx_throwS (names := xNs) X.1 X.2.1 hl X.2.2.2.1 (xN_fit k) xNs_fit (X.2.2.2.2 _ t1) (X.2.2.2.2 _ t2) hstr hat t5 hZ.2.1 hZ.2.2 hM.2.2.1 hls d0 d3 d4 d6 d9 (fun x hx => (hxt x hx).elim) hf hlo (by omega) (by omega) hlocks hx hM.2.2.1.2.2 (by omega) (by omega)
  · exact vx_throwSW (names := xNs) X.1 X.2.1 hl X.2.2.2.1 (xN_fit k) xNs_fit (X.2.2.2.2 _ t1) (X.2.2.2.2 _ t2) hstr hat t5 hZ.2.1 hZ.2.2 hM.2.2.1 hls d0 d3 d4 d6 d9 (fun x hx => (hxt x hx).elim) hf hlo (by omega) (by omega) hlocks hx hM.2.2.1.2.2 (by omega) (by omega)
end XL
theorem z_xentI {l : Launch} {q : MethodName} {ws ws' : List Cond} {rm : Room} {cc : ByteArray} {maxL : Nat} {ty : FieldType} {av : List Value} {D : va_G} {y : Nat → ClassId} {S : ZS} {mc ms : Nat} {Pw : Int32 → ZS → Prop} {Px : Nat → ZS → Prop} {own : String} (hlt : l.stackTraces = false) (hR : 6 ≤ rm.frames ∧ 90 ≤ rm.locals) (hy : plainName q.cls = true) (hcls : q.cls = own) (hw : ws = Cond.code q cc maxL (some ty) :: ws') (hav : (lg_sl av).length ≤ maxL) (hrm : rm.cells = mc ∧ rm.slots = ms)
    (body : ∀ (p : Program) (e : Env) (s : State) (m : MethodId) (args : Array Value) (below : List Frame) (meth : Method) (c : Code) (A0 : Nat → Prop) (Q : State → Prop) (H : Heap) (locs : List Loc) (ls : Array Slot), CallFix p m c cc maxL s args ws own → zQi p l e rm s m args below meth c Q cc D y A0 ty Pw → zQx p l e rm s m args below meth c Q cc D y A0 Px own ws → zH D y A0 s H locs S → lv_has ls maxL (lv_args 0 av) → W p l e rm s m args below meth c H locs (rm.cells - rm.cells) (rm.slots - rm.slots) Q (F0 m 0 ls [])) : zXi l q ws rm av D y S mc ms Pw Px := by
  intro sz
  refine vx_ofW (cc := cc) (maxL := maxL) (ret := some ty) hy hw ?_
  intro p e s m args below meth c s₁ B hml hxt hv
  obtain ⟨rfl, ⟨hsz, hP, hK, hD0, hE⟩, hZ⟩ := hv
  subst hsz
  have hlocks := B.notSynchronized
  have hr := B.returns
  have X : CallFix p m c cc maxL s av.toArray ws own := ⟨B.exec, B.bytes, hml, by rw [← hcls]; exact findClass_of_methodNamed B.named, atoms_spec (ws := ws) B.pre⟩
  have hl := lv_entry av (n := maxL) hav
  rw [lg_entry_eq]
  have hM : zH D y (va_A (zW y S) s.heap.size) s s.heap [] S := ⟨hP, hD0.self, va_S.rf, hK, fun q hq => Or.inr hq, hE⟩
  obtain ⟨rfl, rfl⟩ := hrm
  refine z_eqCS (c2 := rm.cells - rm.cells) (t2 := rm.slots - rm.slots) (Nat.sub_self _).symm (Nat.sub_self _).symm ?_
  refine body p e s m av.toArray below meth c (va_A (zW y S) s.heap.size) _ s.heap [] _ X ?_ (z_thr X hlt hxt hlocks hZ hR) hM hl
  intro r S1 C T H locs pc ls hp hM hn hdg
  refine W.widen (k := rm.cells) (n := rm.slots) (Nat.sub_le _ _) (Nat.sub_le _ _) ?_
  refine vx_ret ?_
  exact W.zret (v := r) X.1 X.2.1 hr hn (fun t ht hW => ⟨⟨r, S1, rfl, hp, by show va_P D vwCl (zW y S1) t.heap ∧ _; rw [ht]; exact ⟨hM.1, hM.2.1, hM.2.2.2.2.2.2⟩⟩, hM.2.2.1.F ht⟩) hM.2.2.1.2.2 hdg
theorem z_xentV {l : Launch} {q : MethodName} {ws ws' : List Cond} {rm : Room} {cc : ByteArray} {maxL : Nat} {av : List Value} {D : va_G} {y : Nat → ClassId} {S : ZS} {mc ms : Nat} {Pw : Int32 → ZS → Prop} {Px : Nat → ZS → Prop} {own : String} (hlt : l.stackTraces = false) (hR : 6 ≤ rm.frames ∧ 90 ≤ rm.locals) (hy : plainName q.cls = true) (hcls : q.cls = own) (hw : ws = Cond.code q cc maxL none :: ws') (hav : (lg_sl av).length ≤ maxL) (hrm : rm.cells = mc ∧ rm.slots = ms)
    (body : ∀ (p : Program) (e : Env) (s : State) (m : MethodId) (args : Array Value) (below : List Frame) (meth : Method) (c : Code) (A0 : Nat → Prop) (Q : State → Prop) (H : Heap) (locs : List Loc) (ls : Array Slot), CallFix p m c cc maxL s args ws own → zQv p l e rm s m args below meth c Q cc D y A0 Pw → zQx p l e rm s m args below meth c Q cc D y A0 Px own ws → zH D y A0 s H locs S → lv_has ls maxL (lv_args 0 av) → W p l e rm s m args below meth c H locs (rm.cells - rm.cells) (rm.slots - rm.slots) Q (F0 m 0 ls [])) : zXv l q ws rm av D y S mc ms Pw Px := by
  intro sz
  refine vx_ofW (cc := cc) (maxL := maxL) (ret := none) hy hw ?_
  intro p e s m args below meth c s₁ B hml hxt hv
  obtain ⟨rfl, ⟨hsz, hP, hK, hD0, hE⟩, hZ⟩ := hv
  subst hsz
  have hlocks := B.notSynchronized
  have hr := B.returns
  have X : CallFix p m c cc maxL s av.toArray ws own := ⟨B.exec, B.bytes, hml, by rw [← hcls]; exact findClass_of_methodNamed B.named, atoms_spec (ws := ws) B.pre⟩
  have hl := lv_entry av (n := maxL) hav
  rw [lg_entry_eq]
  have hM : zH D y (va_A (zW y S) s.heap.size) s s.heap [] S := ⟨hP, hD0.self, va_S.rf, hK, fun q hq => Or.inr hq, hE⟩
  obtain ⟨rfl, rfl⟩ := hrm
  refine z_eqCS (c2 := rm.cells - rm.cells) (t2 := rm.slots - rm.slots) (Nat.sub_self _).symm (Nat.sub_self _).symm ?_
  refine body p e s m av.toArray below meth c (va_A (zW y S) s.heap.size) _ s.heap [] _ X ?_ (z_thr X hlt hxt hlocks hZ hR) hM hl
  intro S1 C T H locs pc ls hp hM hdg
  refine W.widen (k := rm.cells) (n := rm.slots) (Nat.sub_le _ _) (Nat.sub_le _ _) ?_
  refine vx_ret ?_
  exact W.vret X.1 X.2.1 hr (fun t ht hW => ⟨⟨S1, rfl, hp, by show va_P D vwCl (zW y S1) t.heap ∧ _; rw [ht]; exact ⟨hM.1, hM.2.1, hM.2.2.2.2.2.2⟩⟩, hM.2.2.1.F ht⟩) hM.2.2.1.2.2 hdg
