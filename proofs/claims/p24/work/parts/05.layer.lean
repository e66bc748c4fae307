section
noncomputable def mFuel : Nat := 200000
noncomputable abbrev MS : Type := (Nat → Int32) × (Nat → Nat → Int32)
noncomputable abbrev mF (h : Nat → Nat) (I : Nat → Int32) : List Value := [.int (I 0), .int (I 1), .ref (h 2), .int (I 3), .ref (h 4), .int (I 5), .int (I 6), .ref (h 7), .ref (h 8), .ref (h 9), .ref (h 10), .ref (h 11), .ref (h 12), .ref (h 13), .ref (h 14), .ref (h 15), .ref (h 16), .ref (h 17), .ref (h 18), .ref (h 19), .ref (h 20), .ref (h 21), .ref (h 22), .ref (h 23), .ref (h 24), .int (I 25), .int (I 26), .int (I 27), .int (I 28), .int (I 29), .ref (h 30), .ref (h 31), .ref (h 32), .int (I 33), .ref (h 34), .ref (h 35), .int (I 36), .int (I 37), .int (I 38), .int (I 39)]
noncomputable abbrev mW (cy ci : ClassId) (h : Nat → Nat) (I : Nat → Int32) (A : Nat → Nat → Int32) : va_W := [(h 0, .inr (12, mF h I)), (h 2, .inl (cy, 2000, .inl (A 2))), (h 4, .inl (cy, 80000, .inl (A 4))), (h 7, .inl (ci, 2, .inl (A 7))), (h 8, .inl (ci, 602, .inl (A 8))), (h 9, .inl (ci, 602, .inl (A 9))), (h 10, .inl (ci, 602, .inl (A 10))), (h 11, .inl (ci, 602, .inl (A 11))), (h 12, .inl (ci, 602, .inl (A 12))), (h 13, .inl (ci, 2408, .inl (A 13))), (h 14, .inl (ci, 602, .inl (A 14))), (h 15, .inl (cy, 120400, .inl (A 15))), (h 16, .inl (ci, 128, .inl (A 16))), (h 17, .inl (ci, 10, .inl (A 17))), (h 18, .inl (ci, 2, .inl (A 18))), (h 19, .inl (ci, 16, .inl (A 19))), (h 20, .inl (cy, 192, .inl (A 20))), (h 21, .inl (ci, 16, .inl (A 21))), (h 22, .inl (cy, 1536, .inl (A 22))), (h 23, .inl (ci, 2, .inl (A 23))), (h 24, .inl (ci, 64, .inl (A 24))), (h 30, .inl (ci, 64, .inl (A 30))), (h 31, .inl (ci, 5, .inl (A 31))), (h 32, .inl (ci, 2048, .inl (A 32))), (h 34, .inl (ci, 301, .inl (A 34))), (h 35, .inl (cy, 16, .inl (A 35)))]
theorem mT1 : ∀ k, k < 40 → (TX12 k).1 = "MoveTextsModel" := by decide +kernel
theorem mD_fst {A : Nat → Prop} {w1 w2 : va_W} (hm : w1.map Prod.fst = w2.map Prod.fst) (hD : va_D A w1) : va_D A w2 := by
  have key : ∀ (k : Nat) (q : Nat × va_E), w2[k]? = some q → ∃ q0 : Nat × va_E, w1[k]? = some q0 ∧ q0.1 = q.1 := by
    intro k q hq
    have h2 : (w2.map Prod.fst)[k]? = some q.1 := by rw [List.getElem?_map, hq]; rfl
    rw [← hm, List.getElem?_map] at h2
    cases h3 : w1[k]? with
    | none => rw [h3] at h2; cases h2
    | some q0 => rw [h3] at h2; exact ⟨q0, rfl, Option.some.inj h2⟩
  refine ⟨fun i j x y hi hj hxy => ?_, fun k q hk => ?_⟩
  · obtain ⟨a, h1, h2⟩ := key i x hi
    obtain ⟨b, h3, h4⟩ := key j y hj
    exact hD.1 i j a b h1 h3 (by rw [h2, h4]; exact hxy)
  · obtain ⟨a, h1, h2⟩ := key k q hk
    rw [← h2]
    exact hD.2 k a h1
theorem mD_any {A0 : Nat → Prop} {cy ci : ClassId} {h : Nat → Nat} {I I' : Nat → Int32} {A A' : Nat → Nat → Int32} (hD : va_D A0 (mW cy ci h I A)) : va_D A0 (mW cy ci h I' A') := mD_fst (w1 := mW cy ci h I A) rfl hD
noncomputable def mH (D : va_G) (cy ci : ClassId) (h : Nat → Nat) (A0 : Nat → Prop) (s : State) (H : Heap) (locs : List Loc) (I : Nat → Int32) (A : Nat → Nat → Int32) : Prop :=
  va_P D vwCl (mW cy ci h I A) H ∧ va_D A0 (mW cy ci h I A) ∧ va_S A0 s.heap H locs ∧ va_K D vwCl [(cy, .char), (ci, .int)] s ∧ ∀ q : Nat, s.heap.size ≤ q → A0 q
-- pure forms: a value named, a test that must hold, a call, a branch
noncomputable def m_bnd {α β : Type} (x : α) (k : α → Option β) : Option β := k x
noncomputable def m_chk {β : Type} (c : Prop) [Decidable c] (k : Option β) : Option β := if c then k else none
noncomputable def m_if {β : Type} (c : Prop) [Decidable c] (a b : Option β) : Option β := if c then a else b
noncomputable def m_cal {α β : Type} (o : Option α) (k : α → Option β) : Option β := match o with
  | some x => k x
  | none => none
theorem m_bndE {α β : Type} {x : α} {k : α → Option β} {r : β} (hf : m_bnd x k = some r) : ∃ y : α, y = x ∧ k y = some r := ⟨x, rfl, hf⟩
theorem m_chkE {β : Type} {c : Prop} [Decidable c] {k : Option β} {r : β} (hf : m_chk c k = some r) : c ∧ k = some r := by
  unfold m_chk at hf
  by_cases hc : c
  · rw [if_pos hc] at hf; exact ⟨hc, hf⟩
  · rw [if_neg hc] at hf; cases hf
theorem m_ifT {β : Type} {c : Prop} [Decidable c] {a b : Option β} {r : β} (hf : m_if c a b = some r) (hc : c) : a = some r := by
  unfold m_if at hf; rw [if_pos hc] at hf; exact hf
theorem m_ifF {β : Type} {c : Prop} [Decidable c] {a b : Option β} {r : β} (hf : m_if c a b = some r) (hc : ¬ c) : b = some r := by
  unfold m_if at hf; rw [if_neg hc] at hf; exact hf
theorem m_calE {α β : Type} {o : Option α} {k : α → Option β} {r : β} (hf : m_cal o k = some r) : ∃ y : α, o = some y ∧ k y = some r := by
  cases o with
  | none => cases hf
  | some y => exact ⟨y, rfl, hf⟩
noncomputable def mB (D : va_G) (cy ci : ClassId) (h : Nat → Nat) (I : Nat → Int32) (A : Nat → Nat → Int32) (sz : Nat) : State → Prop := fun U =>
  U.heap.size = sz ∧ va_P D vwCl (mW cy ci h I A) U.heap ∧ va_K D vwCl [(cy, .char), (ci, .int)] U ∧ va_D (fun _ => True) (mW cy ci h I A)
/-- a method of the reference that answers an int (a boolean, a char): from (I, A) it answers r and leaves (I', A') -/
noncomputable def mMi (l : Launch) (y : MethodName) (ws : List Cond) (rm : Room) (av : List Value) (D : va_G) (cy ci : ClassId) (h : Nat → Nat) (I : Nat → Int32) (A : Nat → Nat → Int32) (o : Int32 × MS) : Prop :=
  ∀ sz : Nat, Met l y ws rm (va_Pc av (mB D cy ci h I A sz)) (va_Qi (fun (r' : Int32) (_ : Unit) => r' = o.1) (fun _ t => va_P D vwCl (mW cy ci h o.2.1 o.2.2) t.heap) (va_A (mW cy ci h I A) sz)) 0 0 (va_A (mW cy ci h I A) sz)
/-- one that answers nothing -/
noncomputable def mMv (l : Launch) (y : MethodName) (ws : List Cond) (rm : Room) (av : List Value) (D : va_G) (cy ci : ClassId) (h : Nat → Nat) (I : Nat → Int32) (A : Nat → Nat → Int32) (o : Int32 × MS) : Prop :=
  ∀ sz : Nat, Met l y ws rm (va_Pc av (mB D cy ci h I A sz)) (va_Qv (fun (_ : Unit) => True) (fun _ t => va_P D vwCl (mW cy ci h o.2.1 o.2.2) t.heap) (va_A (mW cy ci h I A) sz)) 0 0 (va_A (mW cy ci h I A) sz)
noncomputable def mRi (p : Program) (l : Launch) (e : Env) (R : Room) (s : State) (m : MethodId) (args : Array Value) (below : List Frame) (meth : Method) (c : Code) (Q : State → Prop) (cc : ByteArray) (D : va_G) (cy ci : ClassId) (h : Nat → Nat) (A0 : Nat → Prop) (ty : FieldType) (o : Int32 × MS) : Prop :=
  ∀ (H : Heap) (locs : List Loc) (pc : Nat) (ls : Array Slot), mH D cy ci h A0 s H locs o.2.1 o.2.2 → narrow ty (.int o.1) = .int o.1 → decode cc pc = .ok (.ireturn, 1) → W p l e R s m args below meth c H locs 0 0 Q (F0 m pc ls [.int o.1])
noncomputable def mRv (p : Program) (l : Launch) (e : Env) (R : Room) (s : State) (m : MethodId) (args : Array Value) (below : List Frame) (meth : Method) (c : Code) (Q : State → Prop) (cc : ByteArray) (D : va_G) (cy ci : ClassId) (h : Nat → Nat) (A0 : Nat → Prop) (o : Int32 × MS) : Prop :=
  ∀ (H : Heap) (locs : List Loc) (pc : Nat) (ls : Array Slot), mH D cy ci h A0 s H locs o.2.1 o.2.2 → decode cc pc = .ok (.return_, 1) → W p l e R s m args below meth c H locs 0 0 Q (F0 m pc ls [])
theorem m_nb {v : Int32} (hv : vp_nar .boolean v = v) : narrow .boolean (.int v) = .int v := by
  have h1 : narrow .boolean (.int v) = .int (vp_nar .boolean v) := rfl
  rw [h1, hv]
theorem m_nc {v : Int32} (hv : vp_nar .char v = v) : narrow .char (.int v) = .int v := by
  have h1 : narrow .char (.int v) = .int (vp_nar .char v) := rfl
  rw [h1, hv]
section ML
variable {p : Program} {l : Launch} {e : Env} {R : Room} {s : State} {m : MethodId} {args : Array Value} {below : List Frame} {meth : Method} {c : Code} {H : Heap} {locs : List Loc} {cells slots : Nat} {Q : State → Prop}
variable {cc : ByteArray} {pc nL : Nat} {ls : Array Slot} {rest : List Value} {D : va_G} {A0 : Nat → Prop} {Ts : List Cond} {cy ci : ClassId} {h : Nat → Nat} {I : Nat → Int32} {A : Nat → Nat → Int32}
theorem m_top {x y : Int32} (hy : y = x) (k : W p l e R s m args below meth c H locs cells slots Q (F0 m pc ls (.int y :: rest))) : W p l e R s m args below meth c H locs cells slots Q (F0 m pc ls (.int x :: rest)) := hy ▸ k
theorem m_topl {x y : Int64} (hy : y = x) (k : W p l e R s m args below meth c H locs cells slots Q (F0 m pc ls (.long y :: rest))) : W p l e R s m args below meth c H locs cells slots Q (F0 m pc ls (.long x :: rest)) := hy ▸ k
theorem m_hI {I' : Nat → Int32} (hM : mH D cy ci h A0 s H locs I A) (hI : I' = I) : mH D cy ci h A0 s H locs I' A := hI ▸ hM
theorem m_hA {A' : Nat → Nat → Int32} (hM : mH D cy ci h A0 s H locs I A) (hI : A' = A) : mH D cy ci h A0 s H locs I A' := hI ▸ hM
theorem m_get (X : CallFix p m c cc nL s args Ts RX12) (hw : ∀ w ∈ wsX120, w ∈ Ts) (hM : mH D cy ci h A0 s H locs I A) (k : Nat) (hk : k < 40) {index : Nat} (hl : Cond.fieldLink RX12 index "MoveTextsModel" (TX12 k).2.1 (TX12 k).2.2.1 ∈ Ts) {v : Value} (hv : (mF h I)[k]? = some v) (hdg : decode cc pc = .ok (.getfield index, 3))
    (kk : W p l e R s m args below meth c H locs cells slots Q (F0 m (pc + 3) ls (v :: rest))) : W p l e R s m args below meth c H locs cells slots Q (F0 m pc ls (.ref (h 0) :: rest)) :=
  va_get (D := D) (ci := 12) (C := RX12) (T := TX12) (N := 40) X.1 X.2.1 X.2.2.2.2 hw X.2.2.2.1 hM.2.2.2.1 hM.1 0 rfl rfl k hk (X.2.2.2.2 _ hl) (by rw [mT1 k hk]; exact fun _ h9 => h9) hv hdg kk
theorem m_put (X : CallFix p m c cc nL s args Ts RX12) (hw : ∀ w ∈ wsX120, w ∈ Ts) (hM : mH D cy ci h A0 s H locs I A) (k : Nat) (hk : k < 40) {index : Nat} (hl : Cond.fieldLink RX12 index "MoveTextsModel" (TX12 k).2.1 (TX12 k).2.2.1 ∈ Ts) {v : Int32} (hset : (mF h I).set k (.int v) = mF h (upd I k v)) (hfin : (TX12 k).2.2.2 = false) (hd : parseFieldDescriptor (TX12 k).2.2.1 = some .int) (hdg : decode cc pc = .ok (.putfield index, 3))
    (kk : ∀ (H : Heap) (locs : List Loc), mH D cy ci h A0 s H locs (upd I k v) A → W p l e R s m args below meth c H locs cells slots Q (F0 m (pc + 3) ls rest)) : W p l e R s m args below meth c H locs cells slots Q (F0 m pc ls (.int v :: .ref (h 0) :: rest)) := by
  obtain ⟨hP, hD, hS, hK, hA⟩ := hM
  refine va_put (D := D) (ci := 12) (v := .int v) (ty := .int) (C := RX12) (T := TX12) (N := 40) X.1 X.2.1 X.2.2.2.2 hw tyX12 tyX12_ok nmX12 X.2.2.2.1 hK hP hD hS 0 rfl rfl k hk (X.2.2.2.2 _ hl) (by rw [mT1 k hk]; exact fun _ h9 => h9) hfin hd rfl rfl hk hdg (fun H1 locs1 hP1 hD1 hS1 => ?_)
  rw [hset] at hP1
  exact kk H1 locs1 ⟨hP1, mD_any hD, hS1, hK, hA⟩
theorem m_iald (X : CallFix p m c cc nL s args Ts RX12) (hM : mH D cy ci h A0 s H locs I A) (j q0 n : Nat) (ha : (mW cy ci h I A)[q0]? = some (h j, .inl (ci, n, .inl (A j)))) {i : Int32} (hin : vp_in i n) (hdg : decode cc pc = .ok (.iaload, 1))
    (kk : W p l e R s m args below meth c H locs cells slots Q (F0 m (pc + 1) ls (.int (A j i.toNatClampNeg) :: rest))) : W p l e R s m args below meth c H locs cells slots Q (F0 m pc ls (.int i :: .ref (h j) :: rest)) :=
  va_iald X.1 X.2.1 hM.2.2.2.1 hM.1 q0 1 ha rfl hin hdg kk
theorem m_cald (X : CallFix p m c cc nL s args Ts RX12) (hM : mH D cy ci h A0 s H locs I A) (j q0 n : Nat) (ha : (mW cy ci h I A)[q0]? = some (h j, .inl (cy, n, .inl (A j)))) {i : Int32} (hin : vp_in i n) (hdg : decode cc pc = .ok (.caload, 1))
    (kk : W p l e R s m args below meth c H locs cells slots Q (F0 m (pc + 1) ls (.int (A j i.toNatClampNeg) :: rest))) : W p l e R s m args below meth c H locs cells slots Q (F0 m pc ls (.int i :: .ref (h j) :: rest)) :=
  va_cald X.1 X.2.1 hM.2.2.2.1 hM.1 q0 0 ha rfl hin hdg kk
theorem m_iast (X : CallFix p m c cc nL s args Ts RX12) (hM : mH D cy ci h A0 s H locs I A) (j q0 n : Nat) (ha : (mW cy ci h I A)[q0]? = some (h j, .inl (ci, n, .inl (A j)))) {i x : Int32} (hset : ∀ g : Nat → Int32, (mW cy ci h I A).set q0 (h j, .inl (ci, n, .inl g)) = mW cy ci h I (va_up A j g)) (hin : vp_in i n) (hdg : decode cc pc = .ok (.iastore, 1))
    (kk : ∀ (H : Heap) (locs : List Loc), mH D cy ci h A0 s H locs I (va_up A j (upd (A j) i.toNatClampNeg x)) → W p l e R s m args below meth c H locs cells slots Q (F0 m (pc + 1) ls rest)) : W p l e R s m args below meth c H locs cells slots Q (F0 m pc ls (.int x :: .int i :: .ref (h j) :: rest)) := by
  obtain ⟨hP, hD, hS, hK, hA⟩ := hM
  refine va_iast X.1 X.2.1 hK hP hD hS q0 1 ha rfl hin hdg (fun H1 locs1 hP1 hD1 hS1 => ?_)
  rw [hset] at hP1
  exact kk H1 locs1 ⟨hP1, mD_any hD, hS1, hK, hA⟩
theorem m_cast (X : CallFix p m c cc nL s args Ts RX12) (hM : mH D cy ci h A0 s H locs I A) (j q0 n : Nat) (ha : (mW cy ci h I A)[q0]? = some (h j, .inl (cy, n, .inl (A j)))) {i x : Int32} (hset : ∀ g : Nat → Int32, (mW cy ci h I A).set q0 (h j, .inl (cy, n, .inl g)) = mW cy ci h I (va_up A j g)) (hin : vp_in i n) (hdg : decode cc pc = .ok (.castore, 1))
    (kk : ∀ (H : Heap) (locs : List Loc), mH D cy ci h A0 s H locs I (va_up A j (upd (A j) i.toNatClampNeg (vp_nar .char x))) → W p l e R s m args below meth c H locs cells slots Q (F0 m (pc + 1) ls rest)) : W p l e R s m args below meth c H locs cells slots Q (F0 m pc ls (.int x :: .int i :: .ref (h j) :: rest)) := by
  obtain ⟨hP, hD, hS, hK, hA⟩ := hM
  refine va_cast X.1 X.2.1 hK hP hD hS q0 0 ha rfl hin hdg (fun H1 locs1 hP1 hD1 hS1 => ?_)
  rw [hset] at hP1
  exact kk H1 locs1 ⟨hP1, mD_any hD, hS1, hK, hA⟩
theorem m_tabD {x : Int32} {dflt lo hi : Int} {offs : Array Int} {len tgt : Nat} (cs : List Int32) (hx : p.tables.exec = Jvm.exec) (hb : c.code = cc) (hdg : decode cc pc = .ok (.tableswitch dflt lo hi offs, len)) (hall : ∀ j, j < offs.size → offs[j]? = some dflt ∨ ∃ k ∈ cs, k.toInt = lo + (j : Int)) (hhi : hi + 1 = lo + (offs.size : Int)) (hn : ∀ k ∈ cs, ¬ x = k) (ht : (pc : Int) + dflt = (tgt : Int))
    (kk : W p l e R s m args below meth c H locs cells slots Q (F0 m tgt ls rest)) : W p l e R s m args below meth c H locs cells slots Q (F0 m pc ls (.int x :: rest)) := by
  by_cases h1 : x.toInt < lo
  · exact lv_tableOut hx hb hdg (Or.inl h1) ht kk
  by_cases h2 : hi < x.toInt
  · exact lv_tableOut hx hb hdg (Or.inr h2) ht kk
  have hj : (x.toInt - lo).toNat < offs.size := by omega
  rcases hall _ hj with h3 | ⟨k, hk, h3⟩
  · exact lv_tableIn hx hb hdg h1 h2 h3 ht kk
  · exact absurd (Int32.toInt_inj.mp (by rw [h3]; omega)) (hn k hk)
variable {y : MethodName} {ws ws' : List Cond} {rm : Room} {bytes : ByteArray} {maxL n index : Nat} {ret : Option FieldType} {As st : List Value} {o : Int32 × MS}
theorem m_blind {av : List Value} {sz : Nat} : FrameBlind (va_Pc av (mB D cy ci h I A sz)) := fun a U g mk q => by
  obtain ⟨q0, q1, qP, qK, qD⟩ := q
  exact ⟨q0, q1, qP, va_K.moved (u := U) (U := U.calling g mk a) (Vm.Alike.refl U.vm) qK, qD⟩
theorem m_free (hM : mH D cy ci h A0 s H locs I A) : ∀ q, va_A (mW cy ci h I A) H.size q → A0 q := by
  obtain ⟨hP, hD, hS, hK, hA⟩ := hM
  intro q hq
  rcases hq with ⟨k, e, hk⟩ | hq
  · exact hD.2 k (q, e) hk
  · exact hA q (Nat.le_trans hS.1 hq)
theorem m_preS (hM : mH D cy ci h A0 s H locs I A) : PreS s H (va_Pc As (mB D cy ci h I A H.size)) As := by
  obtain ⟨hP, hD, hS, hK, hA⟩ := hM
  exact ⟨m_blind, fun U hU hW => ⟨rfl, by rw [hU], by rw [hU]; exact hP, va_K.moved hW.alike hK, hD.weaken (fun _ _ _ _ => trivial)⟩⟩
theorem m_preV (hM : mH D cy ci h A0 s H locs I A) : PreV s H RX12 (h 0) (va_Pc (.ref (h 0) :: As) (mB D cy ci h I A H.size)) As := by
  obtain ⟨hP, hD, hS, hK, hA⟩ := hM
  exact ⟨m_blind, va_recv hK hP (ci := 12) (q0 := 0) rfl rfl, fun U hU hW => ⟨rfl, by rw [hU], by rw [hU]; exact hP, va_K.moved hW.alike hK, hD.weaken (fun _ _ _ _ => trivial)⟩⟩
theorem m_callVi (X : CallFix p m c cc nL s args Ts RX12) (hM : mH D cy ci h A0 s H locs I A) (hc : mMi l y ws rm (.ref (h 0) :: As) D cy ci h I A o) (hT : GoodIn Ts (wsV RX12 index RX12 y ws)) (hw : ws = Cond.code y bytes maxL ret :: ws') (hrm : rm.cells = 0 ∧ rm.slots = 0)
    (hd : y.cls = RX12 ∧ y.cls ≠ "java/lang/invoke/MethodHandle" ∧ y.cls ≠ "java/lang/invoke/VarHandle" ∧ (parseMethodDescriptor y.desc).map (fun d => d.parameters.length) = some n) (hR : rm.frames + 1 ≤ R.frames ∧ 8 + (maxL + 11) + rm.locals ≤ R.locals) (hn : As.length = n) (hls : ls.size = nL) (hst : st = As.reverse ++ .ref (h 0) :: rest) (hrest : (rest.map fun v => v.category).sum ≤ 8) (hdg : decode cc pc = .ok (.invokevirtual index, 3))
    (kk : ∀ (H : Heap) (locs : List Loc), mH D cy ci h A0 s H locs o.2.1 o.2.2 → W p l e R s m args below meth c H locs 0 0 Q (F0 m (pc + 3) ls (.int o.1 :: rest))) : W p l e R s m args below meth c H locs 0 0 Q (F0 m pc ls st) := by
  subst hst
  have hF := m_free hM
  refine va_calli (va_runV (As := As) (rest := rest) X (hc H.size) (cwV n X.2.2.2.2 hT hw hrm.1 hrm.2 hd hR) (m_preV hM) rfl hn hls rfl (lv_room hrest) hdg ⟨Nat.zero_le _, Nat.zero_le _⟩) hM.2.2.1 (fun q _ hq => hF q hq) hF (fun r u t H1 locs1 ht hvm hw1 hB hz1 hk1 hS => ?_)
  obtain ⟨hP, hD, hS0, hK, hA⟩ := hM
  have hB' : va_P D vwCl (mW cy ci h o.2.1 o.2.2) t.heap := hB
  rw [ht] at hB'
  have hw2 : r = o.1 := hw1
  subst hw2
  exact kk H1 locs1 ⟨hB', mD_any hD, hS, hK, hA⟩
theorem m_callVv (X : CallFix p m c cc nL s args Ts RX12) (hM : mH D cy ci h A0 s H locs I A) (hc : mMv l y ws rm (.ref (h 0) :: As) D cy ci h I A o) (hT : GoodIn Ts (wsV RX12 index RX12 y ws)) (hw : ws = Cond.code y bytes maxL ret :: ws') (hrm : rm.cells = 0 ∧ rm.slots = 0)
    (hd : y.cls = RX12 ∧ y.cls ≠ "java/lang/invoke/MethodHandle" ∧ y.cls ≠ "java/lang/invoke/VarHandle" ∧ (parseMethodDescriptor y.desc).map (fun d => d.parameters.length) = some n) (hR : rm.frames + 1 ≤ R.frames ∧ 8 + (maxL + 11) + rm.locals ≤ R.locals) (hn : As.length = n) (hls : ls.size = nL) (hst : st = As.reverse ++ .ref (h 0) :: rest) (hrest : (rest.map fun v => v.category).sum ≤ 8) (hdg : decode cc pc = .ok (.invokevirtual index, 3))
    (kk : ∀ (H : Heap) (locs : List Loc), mH D cy ci h A0 s H locs o.2.1 o.2.2 → W p l e R s m args below meth c H locs 0 0 Q (F0 m (pc + 3) ls rest)) : W p l e R s m args below meth c H locs 0 0 Q (F0 m pc ls st) := by
  subst hst
  have hF := m_free hM
  refine va_callv (va_runV (As := As) (rest := rest) X (hc H.size) (cwV n X.2.2.2.2 hT hw hrm.1 hrm.2 hd hR) (m_preV hM) rfl hn hls rfl (lv_room hrest) hdg ⟨Nat.zero_le _, Nat.zero_le _⟩) hM.2.2.1 (fun q _ hq => hF q hq) hF (fun u t H1 locs1 ht hvm hw1 hB hz1 hk1 hS => ?_)
  obtain ⟨hP, hD, hS0, hK, hA⟩ := hM
  have hB' : va_P D vwCl (mW cy ci h o.2.1 o.2.2) t.heap := hB
  rw [ht] at hB'
  exact kk H1 locs1 ⟨hB', mD_any hD, hS, hK, hA⟩
theorem m_callSi (X : CallFix p m c cc nL s args Ts RX12) (hM : mH D cy ci h A0 s H locs I A) (hc : mMi l y ws rm As D cy ci h I A o) (hT : GoodIn Ts (va_wsS RX12 index y ws)) (hw : ws = Cond.code y bytes maxL ret :: ws') (hrm : rm.cells = 0 ∧ rm.slots = 0)
    (hd : y.cls ≠ "java/lang/invoke/MethodHandle" ∧ y.cls ≠ "java/lang/invoke/VarHandle" ∧ (parseMethodDescriptor y.desc).map (fun d => d.parameters.length) = some n) (hR : rm.frames + 1 ≤ R.frames ∧ 8 + (maxL + 11) + rm.locals ≤ R.locals) (hn : As.length = n) (hls : ls.size = nL) (hst : st = As.reverse ++ rest) (hrest : (rest.map fun v => v.category).sum ≤ 8) (hdg : decode cc pc = .ok (.invokestatic index, 3))
    (kk : ∀ (H : Heap) (locs : List Loc), mH D cy ci h A0 s H locs o.2.1 o.2.2 → W p l e R s m args below meth c H locs 0 0 Q (F0 m (pc + 3) ls (.int o.1 :: rest))) : W p l e R s m args below meth c H locs 0 0 Q (F0 m pc ls st) := by
  subst hst
  have hF := m_free hM
  refine va_calli (va_runS (As := As) (rest := rest) X (hc H.size) (va_cwS n X.2.2.2.2 hT hw hrm.1 hrm.2 hd hR) (m_preS hM) rfl hn hls rfl (lv_room hrest) hdg ⟨Nat.zero_le _, Nat.zero_le _⟩) hM.2.2.1 (fun q _ hq => hF q hq) hF (fun r u t H1 locs1 ht hvm hw1 hB hz1 hk1 hS => ?_)
  obtain ⟨hP, hD, hS0, hK, hA⟩ := hM
  have hB' : va_P D vwCl (mW cy ci h o.2.1 o.2.2) t.heap := hB
  rw [ht] at hB'
  have hw2 : r = o.1 := hw1
  subst hw2
  exact kk H1 locs1 ⟨hB', mD_any hD, hS, hK, hA⟩
end ML
theorem m_entryI {l : Launch} {y : MethodName} {ws ws' : List Cond} {rm : Room} {cc : ByteArray} {maxL : Nat} {ty : FieldType} {av : List Value} {D : va_G} {cy ci : ClassId} {h : Nat → Nat} {I : Nat → Int32} {A : Nat → Nat → Int32} {o : Int32 × MS} (hy : plainName y.cls = true) (hcls : y.cls = RX12) (hw : ws = Cond.code y cc maxL (some ty) :: ws') (hav : (lg_sl av).length ≤ maxL)
    (body : ∀ (p : Program) (e : Env) (s : State) (m : MethodId) (args : Array Value) (below : List Frame) (meth : Method) (c : Code) (A0 : Nat → Prop) (Q : State → Prop) (H : Heap) (locs : List Loc) (ls : Array Slot), CallFix p m c cc maxL s args ws RX12 → mRi p l e rm s m args below meth c Q cc D cy ci h A0 ty o → mH D cy ci h A0 s H locs I A → lv_has ls maxL (lv_args 0 av) → W p l e rm s m args below meth c H locs 0 0 Q (F0 m 0 ls [])) : mMi l y ws rm av D cy ci h I A o := by
  intro sz
  refine Met.ofW (cc := cc) (maxL := maxL) (ret := some ty) hy hw ?_
  intro p e s m args below meth c s₁ B hml hv
  obtain ⟨rfl, hsz, hP, hK, hD0⟩ := hv
  subst hsz
  have hlocks := B.notSynchronized
  have hr := B.returns
  have X : CallFix p m c cc maxL s av.toArray ws RX12 := ⟨B.exec, B.bytes, hml, by rw [← hcls]; exact findClass_of_methodNamed B.named, atoms_spec (ws := ws) B.pre⟩
  have hl := lv_entry av (n := maxL) hav
  rw [lg_entry_eq]
  have hM : mH D cy ci h (va_A (mW cy ci h I A) s.heap.size) s s.heap [] I A := ⟨hP, hD0.self, va_S.rf, hK, fun q hq => Or.inr hq⟩
  refine body p e s m av.toArray below meth c (va_A (mW cy ci h I A) s.heap.size) _ s.heap [] _ X ?_ hM hl
  intro H locs pc ls hM hn hdg
  exact W.zret (v := o.1) X.1 X.2.1 hr hn (fun t ht hW => ⟨⟨o.1, (), rfl, rfl, by show va_P D vwCl (mW cy ci h o.2.1 o.2.2) t.heap; rw [ht]; exact hM.1⟩, hM.2.2.1.F ht⟩) hM.2.2.1.2.2 hdg
theorem m_entryV {l : Launch} {y : MethodName} {ws ws' : List Cond} {rm : Room} {cc : ByteArray} {maxL : Nat} {av : List Value} {D : va_G} {cy ci : ClassId} {h : Nat → Nat} {I : Nat → Int32} {A : Nat → Nat → Int32} {o : Int32 × MS} (hy : plainName y.cls = true) (hcls : y.cls = RX12) (hw : ws = Cond.code y cc maxL none :: ws') (hav : (lg_sl av).length ≤ maxL)
    (body : ∀ (p : Program) (e : Env) (s : State) (m : MethodId) (args : Array Value) (below : List Frame) (meth : Method) (c : Code) (A0 : Nat → Prop) (Q : State → Prop) (H : Heap) (locs : List Loc) (ls : Array Slot), CallFix p m c cc maxL s args ws RX12 → mRv p l e rm s m args below meth c Q cc D cy ci h A0 o → mH D cy ci h A0 s H locs I A → lv_has ls maxL (lv_args 0 av) → W p l e rm s m args below meth c H locs 0 0 Q (F0 m 0 ls [])) : mMv l y ws rm av D cy ci h I A o := by
  intro sz
  refine Met.ofW (cc := cc) (maxL := maxL) (ret := none) hy hw ?_
  intro p e s m args below meth c s₁ B hml hv
  obtain ⟨rfl, hsz, hP, hK, hD0⟩ := hv
  subst hsz
  have hlocks := B.notSynchronized
  have hr := B.returns
  have X : CallFix p m c cc maxL s av.toArray ws RX12 := ⟨B.exec, B.bytes, hml, by rw [← hcls]; exact findClass_of_methodNamed B.named, atoms_spec (ws := ws) B.pre⟩
  have hl := lv_entry av (n := maxL) hav
  rw [lg_entry_eq]
  have hM : mH D cy ci h (va_A (mW cy ci h I A) s.heap.size) s s.heap [] I A := ⟨hP, hD0.self, va_S.rf, hK, fun q hq => Or.inr hq⟩
  refine body p e s m av.toArray below meth c (va_A (mW cy ci h I A) s.heap.size) _ s.heap [] _ X ?_ hM hl
  intro H locs pc ls hM hdg
  exact W.vret X.1 X.2.1 hr (fun t ht hW => ⟨⟨(), rfl, trivial, by show va_P D vwCl (mW cy ci h o.2.1 o.2.2) t.heap; rw [ht]; exact hM.1⟩, hM.2.2.1.F ht⟩) hM.2.2.1.2.2 hdg
theorem mi_0 {h : Nat → Nat} {I : Nat → Int32} {v : Int32} : (mF h I).set 0 (.int v) = mF h (upd I 0 v) := rfl
theorem mi_1 {h : Nat → Nat} {I : Nat → Int32} {v : Int32} : (mF h I).set 1 (.int v) = mF h (upd I 1 v) := rfl
theorem ma_2 {cy ci : ClassId} {h : Nat → Nat} {I : Nat → Int32} {A : Nat → Nat → Int32} (g : Nat → Int32) : (mW cy ci h I A).set 1 (h 2, .inl (cy, 2000, .inl g)) = mW cy ci h I (va_up A 2 g) := rfl
theorem mi_3 {h : Nat → Nat} {I : Nat → Int32} {v : Int32} : (mF h I).set 3 (.int v) = mF h (upd I 3 v) := rfl
theorem ma_4 {cy ci : ClassId} {h : Nat → Nat} {I : Nat → Int32} {A : Nat → Nat → Int32} (g : Nat → Int32) : (mW cy ci h I A).set 2 (h 4, .inl (cy, 80000, .inl g)) = mW cy ci h I (va_up A 4 g) := rfl
theorem mi_5 {h : Nat → Nat} {I : Nat → Int32} {v : Int32} : (mF h I).set 5 (.int v) = mF h (upd I 5 v) := rfl
theorem mi_6 {h : Nat → Nat} {I : Nat → Int32} {v : Int32} : (mF h I).set 6 (.int v) = mF h (upd I 6 v) := rfl
theorem ma_7 {cy ci : ClassId} {h : Nat → Nat} {I : Nat → Int32} {A : Nat → Nat → Int32} (g : Nat → Int32) : (mW cy ci h I A).set 3 (h 7, .inl (ci, 2, .inl g)) = mW cy ci h I (va_up A 7 g) := rfl
theorem ma_8 {cy ci : ClassId} {h : Nat → Nat} {I : Nat → Int32} {A : Nat → Nat → Int32} (g : Nat → Int32) : (mW cy ci h I A).set 4 (h 8, .inl (ci, 602, .inl g)) = mW cy ci h I (va_up A 8 g) := rfl
theorem ma_9 {cy ci : ClassId} {h : Nat → Nat} {I : Nat → Int32} {A : Nat → Nat → Int32} (g : Nat → Int32) : (mW cy ci h I A).set 5 (h 9, .inl (ci, 602, .inl g)) = mW cy ci h I (va_up A 9 g) := rfl
theorem ma_10 {cy ci : ClassId} {h : Nat → Nat} {I : Nat → Int32} {A : Nat → Nat → Int32} (g : Nat → Int32) : (mW cy ci h I A).set 6 (h 10, .inl (ci, 602, .inl g)) = mW cy ci h I (va_up A 10 g) := rfl
theorem ma_11 {cy ci : ClassId} {h : Nat → Nat} {I : Nat → Int32} {A : Nat → Nat → Int32} (g : Nat → Int32) : (mW cy ci h I A).set 7 (h 11, .inl (ci, 602, .inl g)) = mW cy ci h I (va_up A 11 g) := rfl
theorem ma_12 {cy ci : ClassId} {h : Nat → Nat} {I : Nat → Int32} {A : Nat → Nat → Int32} (g : Nat → Int32) : (mW cy ci h I A).set 8 (h 12, .inl (ci, 602, .inl g)) = mW cy ci h I (va_up A 12 g) := rfl
theorem ma_13 {cy ci : ClassId} {h : Nat → Nat} {I : Nat → Int32} {A : Nat → Nat → Int32} (g : Nat → Int32) : (mW cy ci h I A).set 9 (h 13, .inl (ci, 2408, .inl g)) = mW cy ci h I (va_up A 13 g) := rfl
theorem ma_14 {cy ci : ClassId} {h : Nat → Nat} {I : Nat → Int32} {A : Nat → Nat → Int32} (g : Nat → Int32) : (mW cy ci h I A).set 10 (h 14, .inl (ci, 602, .inl g)) = mW cy ci h I (va_up A 14 g) := rfl
theorem ma_15 {cy ci : ClassId} {h : Nat → Nat} {I : Nat → Int32} {A : Nat → Nat → Int32} (g : Nat → Int32) : (mW cy ci h I A).set 11 (h 15, .inl (cy, 120400, .inl g)) = mW cy ci h I (va_up A 15 g) := rfl
theorem ma_16 {cy ci : ClassId} {h : Nat → Nat} {I : Nat → Int32} {A : Nat → Nat → Int32} (g : Nat → Int32) : (mW cy ci h I A).set 12 (h 16, .inl (ci, 128, .inl g)) = mW cy ci h I (va_up A 16 g) := rfl
theorem ma_17 {cy ci : ClassId} {h : Nat → Nat} {I : Nat → Int32} {A : Nat → Nat → Int32} (g : Nat → Int32) : (mW cy ci h I A).set 13 (h 17, .inl (ci, 10, .inl g)) = mW cy ci h I (va_up A 17 g) := rfl
theorem ma_18 {cy ci : ClassId} {h : Nat → Nat} {I : Nat → Int32} {A : Nat → Nat → Int32} (g : Nat → Int32) : (mW cy ci h I A).set 14 (h 18, .inl (ci, 2, .inl g)) = mW cy ci h I (va_up A 18 g) := rfl
theorem ma_19 {cy ci : ClassId} {h : Nat → Nat} {I : Nat → Int32} {A : Nat → Nat → Int32} (g : Nat → Int32) : (mW cy ci h I A).set 15 (h 19, .inl (ci, 16, .inl g)) = mW cy ci h I (va_up A 19 g) := rfl
theorem ma_20 {cy ci : ClassId} {h : Nat → Nat} {I : Nat → Int32} {A : Nat → Nat → Int32} (g : Nat → Int32) : (mW cy ci h I A).set 16 (h 20, .inl (cy, 192, .inl g)) = mW cy ci h I (va_up A 20 g) := rfl
theorem ma_21 {cy ci : ClassId} {h : Nat → Nat} {I : Nat → Int32} {A : Nat → Nat → Int32} (g : Nat → Int32) : (mW cy ci h I A).set 17 (h 21, .inl (ci, 16, .inl g)) = mW cy ci h I (va_up A 21 g) := rfl
theorem ma_22 {cy ci : ClassId} {h : Nat → Nat} {I : Nat → Int32} {A : Nat → Nat → Int32} (g : Nat → Int32) : (mW cy ci h I A).set 18 (h 22, .inl (cy, 1536, .inl g)) = mW cy ci h I (va_up A 22 g) := rfl
theorem ma_23 {cy ci : ClassId} {h : Nat → Nat} {I : Nat → Int32} {A : Nat → Nat → Int32} (g : Nat → Int32) : (mW cy ci h I A).set 19 (h 23, .inl (ci, 2, .inl g)) = mW cy ci h I (va_up A 23 g) := rfl
theorem ma_24 {cy ci : ClassId} {h : Nat → Nat} {I : Nat → Int32} {A : Nat → Nat → Int32} (g : Nat → Int32) : (mW cy ci h I A).set 20 (h 24, .inl (ci, 64, .inl g)) = mW cy ci h I (va_up A 24 g) := rfl
theorem mi_25 {h : Nat → Nat} {I : Nat → Int32} {v : Int32} : (mF h I).set 25 (.int v) = mF h (upd I 25 v) := rfl
theorem mi_26 {h : Nat → Nat} {I : Nat → Int32} {v : Int32} : (mF h I).set 26 (.int v) = mF h (upd I 26 v) := rfl
theorem mi_27 {h : Nat → Nat} {I : Nat → Int32} {v : Int32} : (mF h I).set 27 (.int v) = mF h (upd I 27 v) := rfl
theorem mi_28 {h : Nat → Nat} {I : Nat → Int32} {v : Int32} : (mF h I).set 28 (.int v) = mF h (upd I 28 v) := rfl
theorem mi_29 {h : Nat → Nat} {I : Nat → Int32} {v : Int32} : (mF h I).set 29 (.int v) = mF h (upd I 29 v) := rfl
theorem ma_30 {cy ci : ClassId} {h : Nat → Nat} {I : Nat → Int32} {A : Nat → Nat → Int32} (g : Nat → Int32) : (mW cy ci h I A).set 21 (h 30, .inl (ci, 64, .inl g)) = mW cy ci h I (va_up A 30 g) := rfl
theorem ma_31 {cy ci : ClassId} {h : Nat → Nat} {I : Nat → Int32} {A : Nat → Nat → Int32} (g : Nat → Int32) : (mW cy ci h I A).set 22 (h 31, .inl (ci, 5, .inl g)) = mW cy ci h I (va_up A 31 g) := rfl
theorem ma_32 {cy ci : ClassId} {h : Nat → Nat} {I : Nat → Int32} {A : Nat → Nat → Int32} (g : Nat → Int32) : (mW cy ci h I A).set 23 (h 32, .inl (ci, 2048, .inl g)) = mW cy ci h I (va_up A 32 g) := rfl
theorem mi_33 {h : Nat → Nat} {I : Nat → Int32} {v : Int32} : (mF h I).set 33 (.int v) = mF h (upd I 33 v) := rfl
theorem ma_34 {cy ci : ClassId} {h : Nat → Nat} {I : Nat → Int32} {A : Nat → Nat → Int32} (g : Nat → Int32) : (mW cy ci h I A).set 24 (h 34, .inl (ci, 301, .inl g)) = mW cy ci h I (va_up A 34 g) := rfl
theorem ma_35 {cy ci : ClassId} {h : Nat → Nat} {I : Nat → Int32} {A : Nat → Nat → Int32} (g : Nat → Int32) : (mW cy ci h I A).set 25 (h 35, .inl (cy, 16, .inl g)) = mW cy ci h I (va_up A 35 g) := rfl
theorem mi_36 {h : Nat → Nat} {I : Nat → Int32} {v : Int32} : (mF h I).set 36 (.int v) = mF h (upd I 36 v) := rfl
theorem mi_37 {h : Nat → Nat} {I : Nat → Int32} {v : Int32} : (mF h I).set 37 (.int v) = mF h (upd I 37 v) := rfl
theorem mi_38 {h : Nat → Nat} {I : Nat → Int32} {v : Int32} : (mF h I).set 38 (.int v) = mF h (upd I 38 v) := rfl
theorem mi_39 {h : Nat → Nat} {I : Nat → Int32} {v : Int32} : (mF h I).set 39 (.int v) = mF h (upd I 39 v) := rfl
end
section
/-- a call of the reference, its answer and state taken apart -/
noncomputable def m_cl {γ : Type} (e : Option (Int32 × MS)) (k : Int32 → (Nat → Int32) → (Nat → Nat → Int32) → Option γ) : Option γ := match e with
  | none => none
  | some (v, (I, A)) => k v I A
theorem m_clE {γ : Type} {e : Option (Int32 × MS)} {k : Int32 → (Nat → Int32) → (Nat → Nat → Int32) → Option γ} {r : γ} (hf : m_cl e k = some r) : ∃ o : Int32 × MS, e = some o ∧ k o.1 o.2.1 o.2.2 = some r := by
  cases e with
  | none => cases hf
  | some o =>
    obtain ⟨v, I, A⟩ := o
    exact ⟨_, rfl, hf⟩
theorem hw_clearNode : ∀ w ∈ wsX120, w ∈ wsX12_clearNode := by decide +kernel
theorem fl_clearNode_10 : Cond.fieldLink RX12 27 "MoveTextsModel" "child" "[I" ∈ wsX12_clearNode := by decide +kernel
theorem fl_clearNode_11 : Cond.fieldLink RX12 30 "MoveTextsModel" "next" "[I" ∈ wsX12_clearNode := by decide +kernel
theorem fl_clearNode_12 : Cond.fieldLink RX12 33 "MoveTextsModel" "markCount" "[I" ∈ wsX12_clearNode := by decide +kernel
theorem fl_clearNode_14 : Cond.fieldLink RX12 39 "MoveTextsModel" "remarkSize" "[I" ∈ wsX12_clearNode := by decide +kernel
theorem hd_clearNode : yX12_clearNode.cls = RX12 ∧ yX12_clearNode.cls ≠ "java/lang/invoke/MethodHandle" ∧ yX12_clearNode.cls ≠ "java/lang/invoke/VarHandle" ∧ (parseMethodDescriptor yX12_clearNode.desc).map (fun d => d.parameters.length) = some 1 := by decide +kernel
noncomputable def f_clearNode_0 (x1 : Int32) (I : Nat → Int32) (A : Nat → Nat → Int32) : Option (Int32 × MS) :=
  m_chk (¬ (x1 < 0 ∨ 602 ≤ (x1).toNatClampNeg)) (
  m_bnd (va_up A 10 (upd (A 10) (x1).toNatClampNeg (-1 : Int32))) (fun A1 =>
  m_chk (¬ (x1 < 0 ∨ 602 ≤ (x1).toNatClampNeg)) (
  m_bnd (va_up A1 11 (upd (A1 11) (x1).toNatClampNeg (-1 : Int32))) (fun A2 =>
  m_chk (¬ (x1 < 0 ∨ 602 ≤ (x1).toNatClampNeg)) (
  m_bnd (va_up A2 12 (upd (A2 12) (x1).toNatClampNeg (0 : Int32))) (fun A3 =>
  m_chk (¬ (x1 < 0 ∨ 602 ≤ (x1).toNatClampNeg)) (
  m_bnd (va_up A3 14 (upd (A3 14) (x1).toNatClampNeg (0 : Int32))) (fun A4 =>
  some (0, (I, A4))))))))))

set_option maxRecDepth 100000 in
set_option maxHeartbeats 4000000 in
theorem w_clearNode_0 {p : Program} {l : Launch} {e : Env} {s : State} {m : MethodId} {args : Array Value} {below : List Frame} {meth : Method} {c : Code} {Q : State → Prop} {D : va_G} {cy ci : ClassId} {h : Nat → Nat} {A0 : Nat → Prop} {o : Int32 × MS} (X : CallFix p m c cX12_clearNode 2 s args wsX12_clearNode RX12) (hret : mRv p l e ({ frames := 0, cells := 0, slots := 0, locals := 0 } : Room) s m args below meth c Q cX12_clearNode D cy ci h A0 o) {x1 : Int32} {I : Nat → Int32} {A : Nat → Nat → Int32} {H : Heap} {locs : List Loc} {ls : Array Slot} (hf : f_clearNode_0 x1 I A = some o) (hM : mH D cy ci h A0 s H locs I A) (hl : lv_has ls 2 [(0, .ref (h 0)), (1, .int x1)]) : W p l e ({ frames := 0, cells := 0, slots := 0, locals := 0 } : Room) s m args below meth c H locs 0 0 Q (F0 m 0 ls []) := by
  obtain ⟨hx, hb, hml, hown, hts⟩ := id X
  unfold f_clearNode_0 at hf
  refine lv_aload_n hx hb dX12_clearNode_0 rfl (lv_at hl 0 rfl) ?_
  refine m_get (v := .ref (h 10)) X hw_clearNode hM 10 (by decide) fl_clearNode_10 rfl dX12_clearNode_1 ?_
  refine lv_iload_n hx hb dX12_clearNode_4 rfl (lv_at hl 1 rfl) ?_
  refine lv_iconst (v := (-1 : Int32)) hx hb dX12_clearNode_5 (by decide) ?_
  obtain ⟨cd, hf⟩ := m_chkE hf
  refine m_iast X hM 10 6 602 rfl ma_10 cd dX12_clearNode_6 (fun H locs hM => ?_)
  clear cd
  obtain ⟨A1, ev, hf⟩ := m_bndE hf
  replace hM := m_hA hM ev
  clear ev
  refine lv_aload_n hx hb dX12_clearNode_7 rfl (lv_at hl 0 rfl) ?_
  refine m_get (v := .ref (h 11)) X hw_clearNode hM 11 (by decide) fl_clearNode_11 rfl dX12_clearNode_8 ?_
  refine lv_iload_n hx hb dX12_clearNode_11 rfl (lv_at hl 1 rfl) ?_
  refine lv_iconst (v := (-1 : Int32)) hx hb dX12_clearNode_12 (by decide) ?_
  obtain ⟨cd, hf⟩ := m_chkE hf
  refine m_iast X hM 11 7 602 rfl ma_11 cd dX12_clearNode_13 (fun H locs hM => ?_)
  clear cd
  obtain ⟨A2, ev, hf⟩ := m_bndE hf
  replace hM := m_hA hM ev
  clear ev
  refine lv_aload_n hx hb dX12_clearNode_14 rfl (lv_at hl 0 rfl) ?_
  refine m_get (v := .ref (h 12)) X hw_clearNode hM 12 (by decide) fl_clearNode_12 rfl dX12_clearNode_15 ?_
  refine lv_iload_n hx hb dX12_clearNode_18 rfl (lv_at hl 1 rfl) ?_
  refine lv_iconst (v := (0 : Int32)) hx hb dX12_clearNode_19 (by decide) ?_
  obtain ⟨cd, hf⟩ := m_chkE hf
  refine m_iast X hM 12 8 602 rfl ma_12 cd dX12_clearNode_20 (fun H locs hM => ?_)
  clear cd
  obtain ⟨A3, ev, hf⟩ := m_bndE hf
  replace hM := m_hA hM ev
  clear ev
  refine lv_aload_n hx hb dX12_clearNode_21 rfl (lv_at hl 0 rfl) ?_
  refine m_get (v := .ref (h 14)) X hw_clearNode hM 14 (by decide) fl_clearNode_14 rfl dX12_clearNode_22 ?_
  refine lv_iload_n hx hb dX12_clearNode_25 rfl (lv_at hl 1 rfl) ?_
  refine lv_iconst (v := (0 : Int32)) hx hb dX12_clearNode_26 (by decide) ?_
  obtain ⟨cd, hf⟩ := m_chkE hf
  refine m_iast X hM 14 10 602 rfl ma_14 cd dX12_clearNode_27 (fun H locs hM => ?_)
  clear cd
  obtain ⟨A4, ev, hf⟩ := m_bndE hf
  replace hM := m_hA hM ev
  clear ev
  cases hf
  exact hret H locs _ ls hM dX12_clearNode_28
noncomputable def f_clearNode (x1 : Int32) (I : Nat → Int32) (A : Nat → Nat → Int32) : Option (Int32 × MS) := f_clearNode_0 x1 I A
theorem c_clearNode {l : Launch} {D : va_G} {cy ci : ClassId} {h : Nat → Nat} {x1 : Int32} {I : Nat → Int32} {A : Nat → Nat → Int32} {o : Int32 × MS} (hf : f_clearNode x1 I A = some o) : mMv l yX12_clearNode wsX12_clearNode ({ frames := 0, cells := 0, slots := 0, locals := 0 } : Room) [.ref (h 0), .int x1] D cy ci h I A o :=
  m_entryV (cc := cX12_clearNode) (maxL := 2) (by decide) rfl rfl (Nat.le_of_ble_eq_true rfl) (fun p e s m args below meth c A0 Q H locs ls X hret hM hl => w_clearNode_0 X hret hf hM (lv_sub hl [0, 1] rfl))
theorem hw_clearGame : ∀ w ∈ wsX120, w ∈ wsX12_clearGame := by decide +kernel
theorem fl_clearGame_7 : Cond.fieldLink RX12 17 "MoveTextsModel" "count" "[I" ∈ wsX12_clearGame := by decide +kernel
theorem fl_clearGame_8 : Cond.fieldLink RX12 21 "MoveTextsModel" "parent" "[I" ∈ wsX12_clearGame := by decide +kernel
theorem fl_clearGame_9 : Cond.fieldLink RX12 24 "MoveTextsModel" "moveOf" "[I" ∈ wsX12_clearGame := by decide +kernel
theorem fl_clearGame_18 : Cond.fieldLink RX12 52 "MoveTextsModel" "tagCount" "[I" ∈ wsX12_clearGame := by decide +kernel
theorem fl_clearGame_23 : Cond.fieldLink RX12 67 "MoveTextsModel" "results" "[I" ∈ wsX12_clearGame := by decide +kernel
theorem hd_clearGame : yX12_clearGame.cls = RX12 ∧ yX12_clearGame.cls ≠ "java/lang/invoke/MethodHandle" ∧ yX12_clearGame.cls ≠ "java/lang/invoke/VarHandle" ∧ (parseMethodDescriptor yX12_clearGame.desc).map (fun d => d.parameters.length) = some 1 := by decide +kernel
noncomputable def f_clearGame_0 (x1 : Int32) (I : Nat → Int32) (A : Nat → Nat → Int32) : Option (Int32 × MS) :=
  m_chk (¬ (x1 < 0 ∨ 2 ≤ (x1).toNatClampNeg)) (
  m_bnd (va_up A 7 (upd (A 7) (x1).toNatClampNeg (0 : Int32))) (fun A1 =>
  m_chk (¬ (x1 < 0 ∨ 2 ≤ (x1).toNatClampNeg)) (
  m_bnd (va_up A1 18 (upd (A1 18) (x1).toNatClampNeg (0 : Int32))) (fun A2 =>
  m_chk (¬ (x1 < 0 ∨ 2 ≤ (x1).toNatClampNeg)) (
  m_bnd (va_up A2 23 (upd (A2 23) (x1).toNatClampNeg (0 : Int32))) (fun A3 =>
  m_bnd ((301 : Int32) * x1) (fun v4 =>
  m_cl (f_clearNode v4 I A3) (fun r5 Ic5 Ac5 =>
  m_bnd ((301 : Int32) * x1) (fun v6 =>
  m_chk (¬ (v6 < 0 ∨ 602 ≤ (v6).toNatClampNeg)) (
  m_bnd (va_up Ac5 8 (upd (Ac5 8) (v6).toNatClampNeg (-1 : Int32))) (fun A7 =>
  m_bnd ((301 : Int32) * x1) (fun v8 =>
  m_chk (¬ (v8 < 0 ∨ 602 ≤ (v8).toNatClampNeg)) (
  m_bnd (va_up A7 9 (upd (A7 9) (v8).toNatClampNeg (-1 : Int32))) (fun A9 =>
  some (0, (Ic5, A9))))))))))))))))

set_option maxRecDepth 100000 in
set_option maxHeartbeats 4000000 in
theorem w_clearGame_0 {p : Program} {l : Launch} {e : Env} {s : State} {m : MethodId} {args : Array Value} {below : List Frame} {meth : Method} {c : Code} {Q : State → Prop} {D : va_G} {cy ci : ClassId} {h : Nat → Nat} {A0 : Nat → Prop} {o : Int32 × MS} (X : CallFix p m c cX12_clearGame 2 s args wsX12_clearGame RX12) (hret : mRv p l e ({ frames := 1, cells := 0, slots := 0, locals := 21 } : Room) s m args below meth c Q cX12_clearGame D cy ci h A0 o) {x1 : Int32} {I : Nat → Int32} {A : Nat → Nat → Int32} {H : Heap} {locs : List Loc} {ls : Array Slot} (hf : f_clearGame_0 x1 I A = some o) (hM : mH D cy ci h A0 s H locs I A) (hl : lv_has ls 2 [(0, .ref (h 0)), (1, .int x1)]) : W p l e ({ frames := 1, cells := 0, slots := 0, locals := 21 } : Room) s m args below meth c H locs 0 0 Q (F0 m 0 ls []) := by
  obtain ⟨hx, hb, hml, hown, hts⟩ := id X
  unfold f_clearGame_0 at hf
  refine lv_aload_n hx hb dX12_clearGame_0 rfl (lv_at hl 0 rfl) ?_
  refine m_get (v := .ref (h 7)) X hw_clearGame hM 7 (by decide) fl_clearGame_7 rfl dX12_clearGame_1 ?_
  refine lv_iload_n hx hb dX12_clearGame_4 rfl (lv_at hl 1 rfl) ?_
  refine lv_iconst (v := (0 : Int32)) hx hb dX12_clearGame_5 (by decide) ?_
  obtain ⟨cd, hf⟩ := m_chkE hf
  refine m_iast X hM 7 3 2 rfl ma_7 cd dX12_clearGame_6 (fun H locs hM => ?_)
  clear cd
  obtain ⟨A1, ev, hf⟩ := m_bndE hf
  replace hM := m_hA hM ev
  clear ev
  refine lv_aload_n hx hb dX12_clearGame_7 rfl (lv_at hl 0 rfl) ?_
  refine m_get (v := .ref (h 18)) X hw_clearGame hM 18 (by decide) fl_clearGame_18 rfl dX12_clearGame_8 ?_
  refine lv_iload_n hx hb dX12_clearGame_11 rfl (lv_at hl 1 rfl) ?_
  refine lv_iconst (v := (0 : Int32)) hx hb dX12_clearGame_12 (by decide) ?_
  obtain ⟨cd, hf⟩ := m_chkE hf
  refine m_iast X hM 18 14 2 rfl ma_18 cd dX12_clearGame_13 (fun H locs hM => ?_)
  clear cd
  obtain ⟨A2, ev, hf⟩ := m_bndE hf
  replace hM := m_hA hM ev
  clear ev
  refine lv_aload_n hx hb dX12_clearGame_14 rfl (lv_at hl 0 rfl) ?_
  refine m_get (v := .ref (h 23)) X hw_clearGame hM 23 (by decide) fl_clearGame_23 rfl dX12_clearGame_15 ?_
  refine lv_iload_n hx hb dX12_clearGame_18 rfl (lv_at hl 1 rfl) ?_
  refine lv_iconst (v := (0 : Int32)) hx hb dX12_clearGame_19 (by decide) ?_
  obtain ⟨cd, hf⟩ := m_chkE hf
  refine m_iast X hM 23 19 2 rfl ma_23 cd dX12_clearGame_20 (fun H locs hM => ?_)
  clear cd
  obtain ⟨A3, ev, hf⟩ := m_bndE hf
  replace hM := m_hA hM ev
  clear ev
  refine lv_aload_n hx hb dX12_clearGame_21 rfl (lv_at hl 0 rfl) ?_
  refine lv_sipush (v := (301 : Int32)) hx hb dX12_clearGame_22 (by decide) ?_
  refine lv_iload_n hx hb dX12_clearGame_25 rfl (lv_at hl 1 rfl) ?_
  refine lv_imul hx hb dX12_clearGame_26 ?_
  obtain ⟨v4, ev, hf⟩ := m_bndE hf
  refine m_top ev ?_
  clear ev
  obtain ⟨o5, ho, hf⟩ := m_clE hf
  refine m_callVv X hM (c_clearNode ho) gX12_clearGame_X12_clearNode rfl ⟨rfl, rfl⟩ hd_clearNode ⟨Nat.le_of_ble_eq_true rfl, Nat.le_of_ble_eq_true rfl⟩ rfl hl.1 rfl (Nat.le_of_ble_eq_true rfl) dX12_clearGame_27 (fun H locs hM => ?_)
  clear ho
  refine lv_aload_n hx hb dX12_clearGame_30 rfl (lv_at hl 0 rfl) ?_
  refine m_get (v := .ref (h 8)) X hw_clearGame hM 8 (by decide) fl_clearGame_8 rfl dX12_clearGame_31 ?_
  refine lv_sipush (v := (301 : Int32)) hx hb dX12_clearGame_34 (by decide) ?_
  refine lv_iload_n hx hb dX12_clearGame_37 rfl (lv_at hl 1 rfl) ?_
  refine lv_imul hx hb dX12_clearGame_38 ?_
  obtain ⟨v6, ev, hf⟩ := m_bndE hf
  refine m_top ev ?_
  clear ev
  refine lv_iconst (v := (-1 : Int32)) hx hb dX12_clearGame_39 (by decide) ?_
  obtain ⟨cd, hf⟩ := m_chkE hf
  refine m_iast X hM 8 4 602 rfl ma_8 cd dX12_clearGame_40 (fun H locs hM => ?_)
  clear cd
  obtain ⟨A7, ev, hf⟩ := m_bndE hf
  replace hM := m_hA hM ev
  clear ev
  refine lv_aload_n hx hb dX12_clearGame_41 rfl (lv_at hl 0 rfl) ?_
  refine m_get (v := .ref (h 9)) X hw_clearGame hM 9 (by decide) fl_clearGame_9 rfl dX12_clearGame_42 ?_
  refine lv_sipush (v := (301 : Int32)) hx hb dX12_clearGame_45 (by decide) ?_
  refine lv_iload_n hx hb dX12_clearGame_48 rfl (lv_at hl 1 rfl) ?_
  refine lv_imul hx hb dX12_clearGame_49 ?_
  obtain ⟨v8, ev, hf⟩ := m_bndE hf
  refine m_top ev ?_
  clear ev
  refine lv_iconst (v := (-1 : Int32)) hx hb dX12_clearGame_50 (by decide) ?_
  obtain ⟨cd, hf⟩ := m_chkE hf
  refine m_iast X hM 9 5 602 rfl ma_9 cd dX12_clearGame_51 (fun H locs hM => ?_)
  clear cd
  obtain ⟨A9, ev, hf⟩ := m_bndE hf
  replace hM := m_hA hM ev
  clear ev
  cases hf
  exact hret H locs _ ls hM dX12_clearGame_52
noncomputable def f_clearGame (x1 : Int32) (I : Nat → Int32) (A : Nat → Nat → Int32) : Option (Int32 × MS) := f_clearGame_0 x1 I A
theorem c_clearGame {l : Launch} {D : va_G} {cy ci : ClassId} {h : Nat → Nat} {x1 : Int32} {I : Nat → Int32} {A : Nat → Nat → Int32} {o : Int32 × MS} (hf : f_clearGame x1 I A = some o) : mMv l yX12_clearGame wsX12_clearGame ({ frames := 1, cells := 0, slots := 0, locals := 21 } : Room) [.ref (h 0), .int x1] D cy ci h I A o :=
  m_entryV (cc := cX12_clearGame) (maxL := 2) (by decide) rfl rfl (Nat.le_of_ble_eq_true rfl) (fun p e s m args below meth c A0 Q H locs ls X hret hM hl => w_clearGame_0 X hret hf hM (lv_sub hl [0, 1] rfl))
theorem hw_start : ∀ w ∈ wsX120, w ∈ wsX12_start := by decide +kernel
theorem fl_start_16 : Cond.fieldLink RX12 46 "MoveTextsModel" "startMen" "[I" ∈ wsX12_start := by decide +kernel
theorem fl_start_17 : Cond.fieldLink RX12 49 "MoveTextsModel" "startRest" "[I" ∈ wsX12_start := by decide +kernel
theorem fl_start_24 : Cond.fieldLink RX12 70 "MoveTextsModel" "men" "[I" ∈ wsX12_start := by decide +kernel
theorem fl_start_25 : Cond.fieldLink RX12 121 "MoveTextsModel" "side" "I" ∈ wsX12_start := by decide +kernel
theorem fl_start_26 : Cond.fieldLink RX12 124 "MoveTextsModel" "rights" "I" ∈ wsX12_start := by decide +kernel
theorem fl_start_27 : Cond.fieldLink RX12 127 "MoveTextsModel" "passed" "I" ∈ wsX12_start := by decide +kernel
theorem fl_start_28 : Cond.fieldLink RX12 130 "MoveTextsModel" "clock" "I" ∈ wsX12_start := by decide +kernel
theorem fl_start_29 : Cond.fieldLink RX12 133 "MoveTextsModel" "number" "I" ∈ wsX12_start := by decide +kernel
theorem hd_start : yX12_start.cls = RX12 ∧ yX12_start.cls ≠ "java/lang/invoke/MethodHandle" ∧ yX12_start.cls ≠ "java/lang/invoke/VarHandle" ∧ (parseMethodDescriptor yX12_start.desc).map (fun d => d.parameters.length) = some 1 := by decide +kernel
noncomputable def f_start_2s (self2 : Int32 → Int32 → (Nat → Int32) → (Nat → Nat → Int32) → Option (Int32 × MS)) (x1 : Int32) (x2 : Int32) (I : Nat → Int32) (A : Nat → Nat → Int32) : Option (Int32 × MS) :=
  m_if ((64 : Int32) ≤ x2) (
  m_bnd ((5 : Int32) * x1) (fun v1 =>
  m_chk (¬ (v1 < 0 ∨ 10 ≤ (v1).toNatClampNeg)) (
  m_bnd (va_up A 17 (upd (A 17) (v1).toNatClampNeg (I 25))) (fun A2 =>
  m_bnd ((5 : Int32) * x1) (fun v3 =>
  m_bnd (v3 + (1 : Int32)) (fun v4 =>
  m_chk (¬ (v4 < 0 ∨ 10 ≤ (v4).toNatClampNeg)) (
  m_bnd (va_up A2 17 (upd (A2 17) (v4).toNatClampNeg (I 26))) (fun A5 =>
  m_bnd ((5 : Int32) * x1) (fun v6 =>
  m_bnd (v6 + (2 : Int32)) (fun v7 =>
  m_chk (¬ (v7 < 0 ∨ 10 ≤ (v7).toNatClampNeg)) (
  m_bnd (va_up A5 17 (upd (A5 17) (v7).toNatClampNeg (I 27))) (fun A8 =>
  m_bnd ((5 : Int32) * x1) (fun v9 =>
  m_bnd (v9 + (3 : Int32)) (fun v10 =>
  m_chk (¬ (v10 < 0 ∨ 10 ≤ (v10).toNatClampNeg)) (
  m_bnd (va_up A8 17 (upd (A8 17) (v10).toNatClampNeg (I 28))) (fun A11 =>
  m_bnd ((5 : Int32) * x1) (fun v12 =>
  m_bnd (v12 + (4 : Int32)) (fun v13 =>
  m_chk (¬ (v13 < 0 ∨ 10 ≤ (v13).toNatClampNeg)) (
  m_bnd (va_up A11 17 (upd (A11 17) (v13).toNatClampNeg (I 29))) (fun A14 =>
  some (0, (I, A14)))))))))))))))))))))
  ) (
  m_bnd ((64 : Int32) * x1) (fun v15 =>
  m_bnd (v15 + x2) (fun v16 =>
  m_chk (¬ (x2 < 0 ∨ 64 ≤ (x2).toNatClampNeg)) (
  m_bnd (A 24 (x2).toNatClampNeg) (fun v17 =>
  m_chk (¬ (v16 < 0 ∨ 128 ≤ (v16).toNatClampNeg)) (
  m_bnd (va_up A 16 (upd (A 16) (v16).toNatClampNeg v17)) (fun A18 =>
  m_bnd (x2 + (1 : Int32)) (fun v19 =>
  self2 x1 v19 I A18)))))))
  )

set_option maxRecDepth 100000 in
set_option maxHeartbeats 4000000 in
theorem ws_start_2 {p : Program} {l : Launch} {e : Env} {s : State} {m : MethodId} {args : Array Value} {below : List Frame} {meth : Method} {c : Code} {Q : State → Prop} {D : va_G} {cy ci : ClassId} {h : Nat → Nat} {A0 : Nat → Prop} {o : Int32 × MS} (X : CallFix p m c cX12_start 3 s args wsX12_start RX12) (hret : mRv p l e ({ frames := 0, cells := 0, slots := 0, locals := 0 } : Room) s m args below meth c Q cX12_start D cy ci h A0 o) {self2 : Int32 → Int32 → (Nat → Int32) → (Nat → Nat → Int32) → Option (Int32 × MS)} (hself2 : ∀ (x1 : Int32) (x2 : Int32) (I : Nat → Int32) (A : Nat → Nat → Int32) (H : Heap) (locs : List Loc) (ls : Array Slot), self2 x1 x2 I A = some o → mH D cy ci h A0 s H locs I A → lv_has ls 3 [(0, .ref (h 0)), (1, .int x1), (2, .int x2)] → W p l e ({ frames := 0, cells := 0, slots := 0, locals := 0 } : Room) s m args below meth c H locs 0 0 Q (F0 m 2 ls [])) {x1 : Int32} {x2 : Int32} {I : Nat → Int32} {A : Nat → Nat → Int32} {H : Heap} {locs : List Loc} {ls : Array Slot} (hf : f_start_2s self2 x1 x2 I A = some o) (hM : mH D cy ci h A0 s H locs I A) (hl : lv_has ls 3 [(0, .ref (h 0)), (1, .int x1), (2, .int x2)]) : W p l e ({ frames := 0, cells := 0, slots := 0, locals := 0 } : Room) s m args below meth c H locs 0 0 Q (F0 m 2 ls []) := by
  obtain ⟨hx, hb, hml, hown, hts⟩ := id X
  unfold f_start_2s at hf
  refine lv_iload_n hx hb dX12_start_2 rfl (lv_at hl 2 rfl) ?_
  refine lv_bipush (v := (64 : Int32)) hx hb dX12_start_3 (by decide) ?_
  refine lv_icmp_ge (tgt := 31) hx hb dX12_start_5 (by decide) (fun cc1 => ?_) (fun cc1 => ?_)
  · replace hf := m_ifT hf cc1
    refine lv_aload_n hx hb dX12_start_31 rfl (lv_at hl 0 rfl) ?_
    refine m_get (v := .ref (h 17)) X hw_start hM 17 (by decide) fl_start_17 rfl dX12_start_32 ?_
    refine lv_iconst (v := (5 : Int32)) hx hb dX12_start_35 (by decide) ?_
    refine lv_iload_n hx hb dX12_start_36 rfl (lv_at hl 1 rfl) ?_
    refine lv_imul hx hb dX12_start_37 ?_
    obtain ⟨v1, ev, hf⟩ := m_bndE hf
    refine m_top ev ?_
    clear ev
    refine lv_aload_n hx hb dX12_start_38 rfl (lv_at hl 0 rfl) ?_
    refine m_get (v := .int (I 25)) X hw_start hM 25 (by decide) fl_start_25 rfl dX12_start_39 ?_
    obtain ⟨cd, hf⟩ := m_chkE hf
    refine m_iast X hM 17 13 10 rfl ma_17 cd dX12_start_42 (fun H locs hM => ?_)
    clear cd
    obtain ⟨A2, ev, hf⟩ := m_bndE hf
    replace hM := m_hA hM ev
    clear ev
    refine lv_aload_n hx hb dX12_start_43 rfl (lv_at hl 0 rfl) ?_
    refine m_get (v := .ref (h 17)) X hw_start hM 17 (by decide) fl_start_17 rfl dX12_start_44 ?_
    refine lv_iconst (v := (5 : Int32)) hx hb dX12_start_47 (by decide) ?_
    refine lv_iload_n hx hb dX12_start_48 rfl (lv_at hl 1 rfl) ?_
    refine lv_imul hx hb dX12_start_49 ?_
    obtain ⟨v3, ev, hf⟩ := m_bndE hf
    refine m_top ev ?_
    clear ev
    refine lv_iconst (v := (1 : Int32)) hx hb dX12_start_50 (by decide) ?_
    refine lv_iadd hx hb dX12_start_51 ?_
    obtain ⟨v4, ev, hf⟩ := m_bndE hf
    refine m_top ev ?_
    clear ev
    refine lv_aload_n hx hb dX12_start_52 rfl (lv_at hl 0 rfl) ?_
    refine m_get (v := .int (I 26)) X hw_start hM 26 (by decide) fl_start_26 rfl dX12_start_53 ?_
    obtain ⟨cd, hf⟩ := m_chkE hf
    refine m_iast X hM 17 13 10 rfl ma_17 cd dX12_start_56 (fun H locs hM => ?_)
    clear cd
    obtain ⟨A5, ev, hf⟩ := m_bndE hf
    replace hM := m_hA hM ev
    clear ev
    refine lv_aload_n hx hb dX12_start_57 rfl (lv_at hl 0 rfl) ?_
    refine m_get (v := .ref (h 17)) X hw_start hM 17 (by decide) fl_start_17 rfl dX12_start_58 ?_
    refine lv_iconst (v := (5 : Int32)) hx hb dX12_start_61 (by decide) ?_
    refine lv_iload_n hx hb dX12_start_62 rfl (lv_at hl 1 rfl) ?_
    refine lv_imul hx hb dX12_start_63 ?_
    obtain ⟨v6, ev, hf⟩ := m_bndE hf
    refine m_top ev ?_
    clear ev
    refine lv_iconst (v := (2 : Int32)) hx hb dX12_start_64 (by decide) ?_
    refine lv_iadd hx hb dX12_start_65 ?_
    obtain ⟨v7, ev, hf⟩ := m_bndE hf
    refine m_top ev ?_
    clear ev
    refine lv_aload_n hx hb dX12_start_66 rfl (lv_at hl 0 rfl) ?_
    refine m_get (v := .int (I 27)) X hw_start hM 27 (by decide) fl_start_27 rfl dX12_start_67 ?_
    obtain ⟨cd, hf⟩ := m_chkE hf
    refine m_iast X hM 17 13 10 rfl ma_17 cd dX12_start_70 (fun H locs hM => ?_)
    clear cd
    obtain ⟨A8, ev, hf⟩ := m_bndE hf
    replace hM := m_hA hM ev
    clear ev
    refine lv_aload_n hx hb dX12_start_71 rfl (lv_at hl 0 rfl) ?_
    refine m_get (v := .ref (h 17)) X hw_start hM 17 (by decide) fl_start_17 rfl dX12_start_72 ?_
    refine lv_iconst (v := (5 : Int32)) hx hb dX12_start_75 (by decide) ?_
    refine lv_iload_n hx hb dX12_start_76 rfl (lv_at hl 1 rfl) ?_
    refine lv_imul hx hb dX12_start_77 ?_
    obtain ⟨v9, ev, hf⟩ := m_bndE hf
    refine m_top ev ?_
    clear ev
    refine lv_iconst (v := (3 : Int32)) hx hb dX12_start_78 (by decide) ?_
    refine lv_iadd hx hb dX12_start_79 ?_
    obtain ⟨v10, ev, hf⟩ := m_bndE hf
    refine m_top ev ?_
    clear ev
    refine lv_aload_n hx hb dX12_start_80 rfl (lv_at hl 0 rfl) ?_
    refine m_get (v := .int (I 28)) X hw_start hM 28 (by decide) fl_start_28 rfl dX12_start_81 ?_
    obtain ⟨cd, hf⟩ := m_chkE hf
    refine m_iast X hM 17 13 10 rfl ma_17 cd dX12_start_84 (fun H locs hM => ?_)
    clear cd
    obtain ⟨A11, ev, hf⟩ := m_bndE hf
    replace hM := m_hA hM ev
    clear ev
    refine lv_aload_n hx hb dX12_start_85 rfl (lv_at hl 0 rfl) ?_
    refine m_get (v := .ref (h 17)) X hw_start hM 17 (by decide) fl_start_17 rfl dX12_start_86 ?_
    refine lv_iconst (v := (5 : Int32)) hx hb dX12_start_89 (by decide) ?_
    refine lv_iload_n hx hb dX12_start_90 rfl (lv_at hl 1 rfl) ?_
    refine lv_imul hx hb dX12_start_91 ?_
    obtain ⟨v12, ev, hf⟩ := m_bndE hf
    refine m_top ev ?_
    clear ev
    refine lv_iconst (v := (4 : Int32)) hx hb dX12_start_92 (by decide) ?_
    refine lv_iadd hx hb dX12_start_93 ?_
    obtain ⟨v13, ev, hf⟩ := m_bndE hf
    refine m_top ev ?_
    clear ev
    refine lv_aload_n hx hb dX12_start_94 rfl (lv_at hl 0 rfl) ?_
    refine m_get (v := .int (I 29)) X hw_start hM 29 (by decide) fl_start_29 rfl dX12_start_95 ?_
    obtain ⟨cd, hf⟩ := m_chkE hf
    refine m_iast X hM 17 13 10 rfl ma_17 cd dX12_start_98 (fun H locs hM => ?_)
    clear cd
    obtain ⟨A14, ev, hf⟩ := m_bndE hf
    replace hM := m_hA hM ev
    clear ev
    cases hf
    exact hret H locs _ ls hM dX12_start_99
  · replace hf := m_ifF hf cc1
    refine lv_aload_n hx hb dX12_start_8 rfl (lv_at hl 0 rfl) ?_
    refine m_get (v := .ref (h 16)) X hw_start hM 16 (by decide) fl_start_16 rfl dX12_start_9 ?_
    refine lv_bipush (v := (64 : Int32)) hx hb dX12_start_12 (by decide) ?_
    refine lv_iload_n hx hb dX12_start_14 rfl (lv_at hl 1 rfl) ?_
    refine lv_imul hx hb dX12_start_15 ?_
    obtain ⟨v15, ev, hf⟩ := m_bndE hf
    refine m_top ev ?_
    clear ev
    refine lv_iload_n hx hb dX12_start_16 rfl (lv_at hl 2 rfl) ?_
    refine lv_iadd hx hb dX12_start_17 ?_
    obtain ⟨v16, ev, hf⟩ := m_bndE hf
    refine m_top ev ?_
    clear ev
    refine lv_aload_n hx hb dX12_start_18 rfl (lv_at hl 0 rfl) ?_
    refine m_get (v := .ref (h 24)) X hw_start hM 24 (by decide) fl_start_24 rfl dX12_start_19 ?_
    refine lv_iload_n hx hb dX12_start_22 rfl (lv_at hl 2 rfl) ?_
    obtain ⟨cd, hf⟩ := m_chkE hf
    refine m_iald X hM 24 20 64 rfl cd dX12_start_23 ?_
    clear cd
    obtain ⟨v17, ev, hf⟩ := m_bndE hf
    refine m_top ev ?_
    clear ev
    obtain ⟨cd, hf⟩ := m_chkE hf
    refine m_iast X hM 16 12 128 rfl ma_16 cd dX12_start_24 (fun H locs hM => ?_)
    clear cd
    obtain ⟨A18, ev, hf⟩ := m_bndE hf
    replace hM := m_hA hM ev
    clear ev
    obtain ⟨v19, ev, hf⟩ := m_bndE hf
    refine lv_iinc (v := v19) (lv' := [(2, .int v19), (0, .ref (h 0)), (1, .int x1)]) hx hb dX12_start_25 hl (k := 2) rfl (by rw [ev]; rfl) (by decide) rfl (fun ls hl => ?_)
    clear ev
    refine lv_goto (tgt := 2) hx hb dX12_start_28 (by decide) ?_
    exact hself2 _ _ _ _ _ _ _ hf hM (lv_sub hl [1, 2, 0] rfl)
noncomputable def f_start_2 : Nat → Int32 → Int32 → (Nat → Int32) → (Nat → Nat → Int32) → Option (Int32 × MS)
  | 0 => fun _ _ _ _ => none
  | n + 1 => f_start_2s (f_start_2 n)
theorem w_start_2 {p : Program} {l : Launch} {e : Env} {s : State} {m : MethodId} {args : Array Value} {below : List Frame} {meth : Method} {c : Code} {Q : State → Prop} {D : va_G} {cy ci : ClassId} {h : Nat → Nat} {A0 : Nat → Prop} {o : Int32 × MS} (X : CallFix p m c cX12_start 3 s args wsX12_start RX12) (hret : mRv p l e ({ frames := 0, cells := 0, slots := 0, locals := 0 } : Room) s m args below meth c Q cX12_start D cy ci h A0 o) (n : Nat) : ∀ (x1 : Int32) (x2 : Int32) (I : Nat → Int32) (A : Nat → Nat → Int32) (H : Heap) (locs : List Loc) (ls : Array Slot), f_start_2 n x1 x2 I A = some o → mH D cy ci h A0 s H locs I A → lv_has ls 3 [(0, .ref (h 0)), (1, .int x1), (2, .int x2)] → W p l e ({ frames := 0, cells := 0, slots := 0, locals := 0 } : Room) s m args below meth c H locs 0 0 Q (F0 m 2 ls []) := by
  induction n with
  | zero => intro x1 x2 I A H locs ls hf; cases hf
  | succ n ih => intro x1 x2 I A H locs ls hf hM hl; exact ws_start_2 X hret (self2 := f_start_2 n) ih hf hM hl
noncomputable def f_start_0 (x1 : Int32) (I : Nat → Int32) (A : Nat → Nat → Int32) : Option (Int32 × MS) :=
  f_start_2 mFuel x1 (0 : Int32) I A

set_option maxRecDepth 100000 in
set_option maxHeartbeats 4000000 in
theorem w_start_0 {p : Program} {l : Launch} {e : Env} {s : State} {m : MethodId} {args : Array Value} {below : List Frame} {meth : Method} {c : Code} {Q : State → Prop} {D : va_G} {cy ci : ClassId} {h : Nat → Nat} {A0 : Nat → Prop} {o : Int32 × MS} (X : CallFix p m c cX12_start 3 s args wsX12_start RX12) (hret : mRv p l e ({ frames := 0, cells := 0, slots := 0, locals := 0 } : Room) s m args below meth c Q cX12_start D cy ci h A0 o) {x1 : Int32} {I : Nat → Int32} {A : Nat → Nat → Int32} {H : Heap} {locs : List Loc} {ls : Array Slot} (hf : f_start_0 x1 I A = some o) (hM : mH D cy ci h A0 s H locs I A) (hl : lv_has ls 3 [(0, .ref (h 0)), (1, .int x1)]) : W p l e ({ frames := 0, cells := 0, slots := 0, locals := 0 } : Room) s m args below meth c H locs 0 0 Q (F0 m 0 ls []) := by
  obtain ⟨hx, hb, hml, hown, hts⟩ := id X
  unfold f_start_0 at hf
  refine lv_iconst (v := (0 : Int32)) hx hb dX12_start_0 (by decide) ?_
  refine lv_istore_n (lv' := [(2, .int (0 : Int32)), (0, .ref (h 0)), (1, .int x1)]) hx hb dX12_start_1 rfl hl (by decide) rfl (fun ls hl => ?_)
  exact w_start_2 X hret _ _ _ _ _ _ _ _ hf hM (lv_sub hl [1, 2, 0] rfl)
noncomputable def f_start (x1 : Int32) (I : Nat → Int32) (A : Nat → Nat → Int32) : Option (Int32 × MS) := f_start_0 x1 I A
theorem c_start {l : Launch} {D : va_G} {cy ci : ClassId} {h : Nat → Nat} {x1 : Int32} {I : Nat → Int32} {A : Nat → Nat → Int32} {o : Int32 × MS} (hf : f_start x1 I A = some o) : mMv l yX12_start wsX12_start ({ frames := 0, cells := 0, slots := 0, locals := 0 } : Room) [.ref (h 0), .int x1] D cy ci h I A o :=
  m_entryV (cc := cX12_start) (maxL := 3) (by decide) rfl rfl (Nat.le_of_ble_eq_true rfl) (fun p e s m args below meth c A0 Q H locs ls X hret hM hl => w_start_0 X hret hf hM (lv_sub hl [0, 1] rfl))
theorem hw_usual : ∀ w ∈ wsX120, w ∈ wsX12_usual := by decide +kernel
theorem fl_usual_24 : Cond.fieldLink RX12 70 "MoveTextsModel" "men" "[I" ∈ wsX12_usual := by decide +kernel
theorem fl_usual_25 : Cond.fieldLink RX12 121 "MoveTextsModel" "side" "I" ∈ wsX12_usual := by decide +kernel
theorem fl_usual_26 : Cond.fieldLink RX12 124 "MoveTextsModel" "rights" "I" ∈ wsX12_usual := by decide +kernel
theorem fl_usual_27 : Cond.fieldLink RX12 127 "MoveTextsModel" "passed" "I" ∈ wsX12_usual := by decide +kernel
theorem fl_usual_28 : Cond.fieldLink RX12 130 "MoveTextsModel" "clock" "I" ∈ wsX12_usual := by decide +kernel
theorem fl_usual_29 : Cond.fieldLink RX12 133 "MoveTextsModel" "number" "I" ∈ wsX12_usual := by decide +kernel
theorem hd_usual : yX12_usual.cls = RX12 ∧ yX12_usual.cls ≠ "java/lang/invoke/MethodHandle" ∧ yX12_usual.cls ≠ "java/lang/invoke/VarHandle" ∧ (parseMethodDescriptor yX12_usual.desc).map (fun d => d.parameters.length) = some 1 := by decide +kernel
noncomputable def f_usual_83 (self23 : Int32 → Int32 → (Nat → Int32) → (Nat → Nat → Int32) → Option (Int32 × MS)) (x1 : Int32) (x2 : Int32) (t0 : Int32) (I : Nat → Int32) (A : Nat → Nat → Int32) : Option (Int32 × MS) :=
  m_chk (¬ (x2 < 0 ∨ 64 ≤ (x2).toNatClampNeg)) (
  m_bnd (va_up A 24 (upd (A 24) (x2).toNatClampNeg t0)) (fun A1 =>
  m_bnd ((8 : Int32) + x2) (fun v2 =>
  m_chk (¬ (v2 < 0 ∨ 64 ≤ (v2).toNatClampNeg)) (
  m_bnd (va_up A1 24 (upd (A1 24) (v2).toNatClampNeg (1 : Int32))) (fun A3 =>
  m_bnd ((48 : Int32) + x2) (fun v4 =>
  m_chk (¬ (v4 < 0 ∨ 64 ≤ (v4).toNatClampNeg)) (
  m_bnd (va_up A3 24 (upd (A3 24) (v4).toNatClampNeg (9 : Int32))) (fun A5 =>
  m_bnd ((56 : Int32) + x2) (fun v6 =>
  m_bnd (t0 + (8 : Int32)) (fun v7 =>
  m_chk (¬ (v6 < 0 ∨ 64 ≤ (v6).toNatClampNeg)) (
  m_bnd (va_up A5 24 (upd (A5 24) (v6).toNatClampNeg v7)) (fun A8 =>
  m_bnd (x2 + (1 : Int32)) (fun v9 =>
  self23 x1 v9 I A8)))))))))))))

set_option maxRecDepth 100000 in
set_option maxHeartbeats 4000000 in
theorem w_usual_83 {p : Program} {l : Launch} {e : Env} {s : State} {m : MethodId} {args : Array Value} {below : List Frame} {meth : Method} {c : Code} {Q : State → Prop} {D : va_G} {cy ci : ClassId} {h : Nat → Nat} {A0 : Nat → Prop} {o : Int32 × MS} (X : CallFix p m c cX12_usual 4 s args wsX12_usual RX12) (hret : mRv p l e ({ frames := 1, cells := 0, slots := 0, locals := 22 } : Room) s m args below meth c Q cX12_usual D cy ci h A0 o) {self23 : Int32 → Int32 → (Nat → Int32) → (Nat → Nat → Int32) → Option (Int32 × MS)} (hself23 : ∀ (x1 : Int32) (x2 : Int32) (I : Nat → Int32) (A : Nat → Nat → Int32) (H : Heap) (locs : List Loc) (ls : Array Slot), self23 x1 x2 I A = some o → mH D cy ci h A0 s H locs I A → lv_has ls 4 [(0, .ref (h 0)), (1, .int x1), (2, .int x2)] → W p l e ({ frames := 1, cells := 0, slots := 0, locals := 22 } : Room) s m args below meth c H locs 0 0 Q (F0 m 23 ls [])) {x1 : Int32} {x2 : Int32} {t0 : Int32} {I : Nat → Int32} {A : Nat → Nat → Int32} {H : Heap} {locs : List Loc} {ls : Array Slot} (hf : f_usual_83 self23 x1 x2 t0 I A = some o) (hM : mH D cy ci h A0 s H locs I A) (hl : lv_has ls 4 [(0, .ref (h 0)), (1, .int x1), (2, .int x2)]) : W p l e ({ frames := 1, cells := 0, slots := 0, locals := 22 } : Room) s m args below meth c H locs 0 0 Q (F0 m 83 ls [.int t0]) := by
  obtain ⟨hx, hb, hml, hown, hts⟩ := id X
  unfold f_usual_83 at hf
  refine lv_istore_n (lv' := [(3, .int t0), (0, .ref (h 0)), (1, .int x1), (2, .int x2)]) hx hb dX12_usual_83 rfl hl (by decide) rfl (fun ls hl => ?_)
  refine lv_aload_n hx hb dX12_usual_84 rfl (lv_at hl 1 rfl) ?_
  refine m_get (v := .ref (h 24)) X hw_usual hM 24 (by decide) fl_usual_24 rfl dX12_usual_85 ?_
  refine lv_iload_n hx hb dX12_usual_88 rfl (lv_at hl 3 rfl) ?_
  refine lv_iload_n hx hb dX12_usual_89 rfl (lv_at hl 0 rfl) ?_
  obtain ⟨cd, hf⟩ := m_chkE hf
  refine m_iast X hM 24 20 64 rfl ma_24 cd dX12_usual_90 (fun H locs hM => ?_)
  clear cd
  obtain ⟨A1, ev, hf⟩ := m_bndE hf
  replace hM := m_hA hM ev
  clear ev
  refine lv_aload_n hx hb dX12_usual_91 rfl (lv_at hl 1 rfl) ?_
  refine m_get (v := .ref (h 24)) X hw_usual hM 24 (by decide) fl_usual_24 rfl dX12_usual_92 ?_
  refine lv_bipush (v := (8 : Int32)) hx hb dX12_usual_95 (by decide) ?_
  refine lv_iload_n hx hb dX12_usual_97 rfl (lv_at hl 3 rfl) ?_
  refine lv_iadd hx hb dX12_usual_98 ?_
  obtain ⟨v2, ev, hf⟩ := m_bndE hf
  refine m_top ev ?_
  clear ev
  refine lv_iconst (v := (1 : Int32)) hx hb dX12_usual_99 (by decide) ?_
  obtain ⟨cd, hf⟩ := m_chkE hf
  refine m_iast X hM 24 20 64 rfl ma_24 cd dX12_usual_100 (fun H locs hM => ?_)
  clear cd
  obtain ⟨A3, ev, hf⟩ := m_bndE hf
  replace hM := m_hA hM ev
  clear ev
  refine lv_aload_n hx hb dX12_usual_101 rfl (lv_at hl 1 rfl) ?_
  refine m_get (v := .ref (h 24)) X hw_usual hM 24 (by decide) fl_usual_24 rfl dX12_usual_102 ?_
  refine lv_bipush (v := (48 : Int32)) hx hb dX12_usual_105 (by decide) ?_
  refine lv_iload_n hx hb dX12_usual_107 rfl (lv_at hl 3 rfl) ?_
  refine lv_iadd hx hb dX12_usual_108 ?_
  obtain ⟨v4, ev, hf⟩ := m_bndE hf
  refine m_top ev ?_
  clear ev
  refine lv_bipush (v := (9 : Int32)) hx hb dX12_usual_109 (by decide) ?_
  obtain ⟨cd, hf⟩ := m_chkE hf
  refine m_iast X hM 24 20 64 rfl ma_24 cd dX12_usual_111 (fun H locs hM => ?_)
  clear cd
  obtain ⟨A5, ev, hf⟩ := m_bndE hf
  replace hM := m_hA hM ev
  clear ev
  refine lv_aload_n hx hb dX12_usual_112 rfl (lv_at hl 1 rfl) ?_
  refine m_get (v := .ref (h 24)) X hw_usual hM 24 (by decide) fl_usual_24 rfl dX12_usual_113 ?_
  refine lv_bipush (v := (56 : Int32)) hx hb dX12_usual_116 (by decide) ?_
  refine lv_iload_n hx hb dX12_usual_118 rfl (lv_at hl 3 rfl) ?_
  refine lv_iadd hx hb dX12_usual_119 ?_
  obtain ⟨v6, ev, hf⟩ := m_bndE hf
  refine m_top ev ?_
  clear ev
  refine lv_iload_n hx hb dX12_usual_120 rfl (lv_at hl 0 rfl) ?_
  refine lv_bipush (v := (8 : Int32)) hx hb dX12_usual_121 (by decide) ?_
  refine lv_iadd hx hb dX12_usual_123 ?_
  obtain ⟨v7, ev, hf⟩ := m_bndE hf
  refine m_top ev ?_
  clear ev
  obtain ⟨cd, hf⟩ := m_chkE hf
  refine m_iast X hM 24 20 64 rfl ma_24 cd dX12_usual_124 (fun H locs hM => ?_)
  clear cd
  obtain ⟨A8, ev, hf⟩ := m_bndE hf
  replace hM := m_hA hM ev
  clear ev
  obtain ⟨v9, ev, hf⟩ := m_bndE hf
  refine lv_iinc (v := v9) (lv' := [(2, .int v9), (3, .int t0), (0, .ref (h 0)), (1, .int x1)]) hx hb dX12_usual_125 hl (k := 3) rfl (by rw [ev]; rfl) (by decide) rfl (fun ls hl => ?_)
  clear ev
  refine lv_goto (tgt := 23) hx hb dX12_usual_128 (by decide) ?_
  exact hself23 _ _ _ _ _ _ _ hf hM (lv_sub hl [2, 3, 0] rfl)
noncomputable def f_usual_39 (self23 : Int32 → Int32 → (Nat → Int32) → (Nat → Nat → Int32) → Option (Int32 × MS)) (x1 : Int32) (x2 : Int32) (I : Nat → Int32) (A : Nat → Nat → Int32) : Option (Int32 × MS) :=
  f_usual_83 self23 x1 x2 (4 : Int32) I A

set_option maxRecDepth 100000 in
set_option maxHeartbeats 4000000 in
theorem w_usual_39 {p : Program} {l : Launch} {e : Env} {s : State} {m : MethodId} {args : Array Value} {below : List Frame} {meth : Method} {c : Code} {Q : State → Prop} {D : va_G} {cy ci : ClassId} {h : Nat → Nat} {A0 : Nat → Prop} {o : Int32 × MS} (X : CallFix p m c cX12_usual 4 s args wsX12_usual RX12) (hret : mRv p l e ({ frames := 1, cells := 0, slots := 0, locals := 22 } : Room) s m args below meth c Q cX12_usual D cy ci h A0 o) {self23 : Int32 → Int32 → (Nat → Int32) → (Nat → Nat → Int32) → Option (Int32 × MS)} (hself23 : ∀ (x1 : Int32) (x2 : Int32) (I : Nat → Int32) (A : Nat → Nat → Int32) (H : Heap) (locs : List Loc) (ls : Array Slot), self23 x1 x2 I A = some o → mH D cy ci h A0 s H locs I A → lv_has ls 4 [(0, .ref (h 0)), (1, .int x1), (2, .int x2)] → W p l e ({ frames := 1, cells := 0, slots := 0, locals := 22 } : Room) s m args below meth c H locs 0 0 Q (F0 m 23 ls [])) {x1 : Int32} {x2 : Int32} {I : Nat → Int32} {A : Nat → Nat → Int32} {H : Heap} {locs : List Loc} {ls : Array Slot} (hf : f_usual_39 self23 x1 x2 I A = some o) (hM : mH D cy ci h A0 s H locs I A) (hl : lv_has ls 4 [(0, .ref (h 0)), (1, .int x1), (2, .int x2)]) : W p l e ({ frames := 1, cells := 0, slots := 0, locals := 22 } : Room) s m args below meth c H locs 0 0 Q (F0 m 39 ls []) := by
  obtain ⟨hx, hb, hml, hown, hts⟩ := id X
  unfold f_usual_39 at hf
  refine lv_iconst (v := (4 : Int32)) hx hb dX12_usual_39 (by decide) ?_
  refine lv_goto (tgt := 83) hx hb dX12_usual_40 (by decide) ?_
  exact w_usual_83 X hret hself23 hf hM (lv_sub hl [0, 1, 2] rfl)
noncomputable def f_usual_54 (self23 : Int32 → Int32 → (Nat → Int32) → (Nat → Nat → Int32) → Option (Int32 × MS)) (x1 : Int32) (x2 : Int32) (I : Nat → Int32) (A : Nat → Nat → Int32) : Option (Int32 × MS) :=
  f_usual_83 self23 x1 x2 (2 : Int32) I A

set_option maxRecDepth 100000 in
set_option maxHeartbeats 4000000 in
theorem w_usual_54 {p : Program} {l : Launch} {e : Env} {s : State} {m : MethodId} {args : Array Value} {below : List Frame} {meth : Method} {c : Code} {Q : State → Prop} {D : va_G} {cy ci : ClassId} {h : Nat → Nat} {A0 : Nat → Prop} {o : Int32 × MS} (X : CallFix p m c cX12_usual 4 s args wsX12_usual RX12) (hret : mRv p l e ({ frames := 1, cells := 0, slots := 0, locals := 22 } : Room) s m args below meth c Q cX12_usual D cy ci h A0 o) {self23 : Int32 → Int32 → (Nat → Int32) → (Nat → Nat → Int32) → Option (Int32 × MS)} (hself23 : ∀ (x1 : Int32) (x2 : Int32) (I : Nat → Int32) (A : Nat → Nat → Int32) (H : Heap) (locs : List Loc) (ls : Array Slot), self23 x1 x2 I A = some o → mH D cy ci h A0 s H locs I A → lv_has ls 4 [(0, .ref (h 0)), (1, .int x1), (2, .int x2)] → W p l e ({ frames := 1, cells := 0, slots := 0, locals := 22 } : Room) s m args below meth c H locs 0 0 Q (F0 m 23 ls [])) {x1 : Int32} {x2 : Int32} {I : Nat → Int32} {A : Nat → Nat → Int32} {H : Heap} {locs : List Loc} {ls : Array Slot} (hf : f_usual_54 self23 x1 x2 I A = some o) (hM : mH D cy ci h A0 s H locs I A) (hl : lv_has ls 4 [(0, .ref (h 0)), (1, .int x1), (2, .int x2)]) : W p l e ({ frames := 1, cells := 0, slots := 0, locals := 22 } : Room) s m args below meth c H locs 0 0 Q (F0 m 54 ls []) := by
  obtain ⟨hx, hb, hml, hown, hts⟩ := id X
  unfold f_usual_54 at hf
  refine lv_iconst (v := (2 : Int32)) hx hb dX12_usual_54 (by decide) ?_
  refine lv_goto (tgt := 83) hx hb dX12_usual_55 (by decide) ?_
  exact w_usual_83 X hret hself23 hf hM (lv_sub hl [0, 1, 2] rfl)
noncomputable def f_usual_68 (self23 : Int32 → Int32 → (Nat → Int32) → (Nat → Nat → Int32) → Option (Int32 × MS)) (x1 : Int32) (x2 : Int32) (I : Nat → Int32) (A : Nat → Nat → Int32) : Option (Int32 × MS) :=
  f_usual_83 self23 x1 x2 (3 : Int32) I A

set_option maxRecDepth 100000 in
set_option maxHeartbeats 4000000 in
theorem w_usual_68 {p : Program} {l : Launch} {e : Env} {s : State} {m : MethodId} {args : Array Value} {below : List Frame} {meth : Method} {c : Code} {Q : State → Prop} {D : va_G} {cy ci : ClassId} {h : Nat → Nat} {A0 : Nat → Prop} {o : Int32 × MS} (X : CallFix p m c cX12_usual 4 s args wsX12_usual RX12) (hret : mRv p l e ({ frames := 1, cells := 0, slots := 0, locals := 22 } : Room) s m args below meth c Q cX12_usual D cy ci h A0 o) {self23 : Int32 → Int32 → (Nat → Int32) → (Nat → Nat → Int32) → Option (Int32 × MS)} (hself23 : ∀ (x1 : Int32) (x2 : Int32) (I : Nat → Int32) (A : Nat → Nat → Int32) (H : Heap) (locs : List Loc) (ls : Array Slot), self23 x1 x2 I A = some o → mH D cy ci h A0 s H locs I A → lv_has ls 4 [(0, .ref (h 0)), (1, .int x1), (2, .int x2)] → W p l e ({ frames := 1, cells := 0, slots := 0, locals := 22 } : Room) s m args below meth c H locs 0 0 Q (F0 m 23 ls [])) {x1 : Int32} {x2 : Int32} {I : Nat → Int32} {A : Nat → Nat → Int32} {H : Heap} {locs : List Loc} {ls : Array Slot} (hf : f_usual_68 self23 x1 x2 I A = some o) (hM : mH D cy ci h A0 s H locs I A) (hl : lv_has ls 4 [(0, .ref (h 0)), (1, .int x1), (2, .int x2)]) : W p l e ({ frames := 1, cells := 0, slots := 0, locals := 22 } : Room) s m args below meth c H locs 0 0 Q (F0 m 68 ls []) := by
  obtain ⟨hx, hb, hml, hown, hts⟩ := id X
  unfold f_usual_68 at hf
  refine lv_iconst (v := (3 : Int32)) hx hb dX12_usual_68 (by decide) ?_
  refine lv_goto (tgt := 83) hx hb dX12_usual_69 (by decide) ?_
  exact w_usual_83 X hret hself23 hf hM (lv_sub hl [0, 1, 2] rfl)
noncomputable def f_usual_23s (self23 : Int32 → Int32 → (Nat → Int32) → (Nat → Nat → Int32) → Option (Int32 × MS)) (x1 : Int32) (x2 : Int32) (I : Nat → Int32) (A : Nat → Nat → Int32) : Option (Int32 × MS) :=
  m_if ((8 : Int32) ≤ x2) (
  m_bnd (upd I 25 (0 : Int32)) (fun I1 =>
  m_bnd (upd I1 26 (15 : Int32)) (fun I2 =>
  m_bnd (upd I2 27 (-1 : Int32)) (fun I3 =>
  m_bnd (upd I3 28 (0 : Int32)) (fun I4 =>
  m_bnd (upd I4 29 (1 : Int32)) (fun I5 =>
  m_cl (f_start x1 I5 A) (fun r6 Ic6 Ac6 =>
  some (0, (Ic6, Ac6))))))))
  ) (
  m_if (x2 = 0) (
  f_usual_39 self23 x1 x2 I A
  ) (
  m_if (x2 = (7 : Int32)) (
  f_usual_39 self23 x1 x2 I A
  ) (
  m_if (x2 = (1 : Int32)) (
  f_usual_54 self23 x1 x2 I A
  ) (
  m_if (x2 = (6 : Int32)) (
  f_usual_54 self23 x1 x2 I A
  ) (
  m_if (x2 = (2 : Int32)) (
  f_usual_68 self23 x1 x2 I A
  ) (
  m_if (x2 = (5 : Int32)) (
  f_usual_68 self23 x1 x2 I A
  ) (
  m_if (x2 = (3 : Int32)) (
  f_usual_83 self23 x1 x2 (5 : Int32) I A
  ) (
  f_usual_83 self23 x1 x2 (6 : Int32) I A
  )
  )
  )
  )
  )
  )
  )
  )

set_option maxRecDepth 100000 in
set_option maxHeartbeats 4000000 in
theorem ws_usual_23 {p : Program} {l : Launch} {e : Env} {s : State} {m : MethodId} {args : Array Value} {below : List Frame} {meth : Method} {c : Code} {Q : State → Prop} {D : va_G} {cy ci : ClassId} {h : Nat → Nat} {A0 : Nat → Prop} {o : Int32 × MS} (X : CallFix p m c cX12_usual 4 s args wsX12_usual RX12) (hret : mRv p l e ({ frames := 1, cells := 0, slots := 0, locals := 22 } : Room) s m args below meth c Q cX12_usual D cy ci h A0 o) {self23 : Int32 → Int32 → (Nat → Int32) → (Nat → Nat → Int32) → Option (Int32 × MS)} (hself23 : ∀ (x1 : Int32) (x2 : Int32) (I : Nat → Int32) (A : Nat → Nat → Int32) (H : Heap) (locs : List Loc) (ls : Array Slot), self23 x1 x2 I A = some o → mH D cy ci h A0 s H locs I A → lv_has ls 4 [(0, .ref (h 0)), (1, .int x1), (2, .int x2)] → W p l e ({ frames := 1, cells := 0, slots := 0, locals := 22 } : Room) s m args below meth c H locs 0 0 Q (F0 m 23 ls [])) {x1 : Int32} {x2 : Int32} {I : Nat → Int32} {A : Nat → Nat → Int32} {H : Heap} {locs : List Loc} {ls : Array Slot} (hf : f_usual_23s self23 x1 x2 I A = some o) (hM : mH D cy ci h A0 s H locs I A) (hl : lv_has ls 4 [(0, .ref (h 0)), (1, .int x1), (2, .int x2)]) : W p l e ({ frames := 1, cells := 0, slots := 0, locals := 22 } : Room) s m args below meth c H locs 0 0 Q (F0 m 23 ls []) := by
  obtain ⟨hx, hb, hml, hown, hts⟩ := id X
  unfold f_usual_23s at hf
  refine lv_iload_n hx hb dX12_usual_23 rfl (lv_at hl 2 rfl) ?_
  refine lv_bipush (v := (8 : Int32)) hx hb dX12_usual_24 (by decide) ?_
  refine lv_icmp_ge (tgt := 131) hx hb dX12_usual_26 (by decide) (fun cc1 => ?_) (fun cc1 => ?_)
  · replace hf := m_ifT hf cc1
    refine lv_aload_n hx hb dX12_usual_131 rfl (lv_at hl 0 rfl) ?_
    refine lv_iconst (v := (0 : Int32)) hx hb dX12_usual_132 (by decide) ?_
    refine m_put X hw_usual hM 25 (by decide) fl_usual_25 mi_25 rfl (tyX12_ok 25 (by decide)) dX12_usual_133 (fun H locs hM => ?_)
    obtain ⟨I1, ev, hf⟩ := m_bndE hf
    replace hM := m_hI hM ev
    clear ev
    refine lv_aload_n hx hb dX12_usual_136 rfl (lv_at hl 0 rfl) ?_
    refine lv_bipush (v := (15 : Int32)) hx hb dX12_usual_137 (by decide) ?_
    refine m_put X hw_usual hM 26 (by decide) fl_usual_26 mi_26 rfl (tyX12_ok 26 (by decide)) dX12_usual_139 (fun H locs hM => ?_)
    obtain ⟨I2, ev, hf⟩ := m_bndE hf
    replace hM := m_hI hM ev
    clear ev
    refine lv_aload_n hx hb dX12_usual_142 rfl (lv_at hl 0 rfl) ?_
    refine lv_iconst (v := (-1 : Int32)) hx hb dX12_usual_143 (by decide) ?_
    refine m_put X hw_usual hM 27 (by decide) fl_usual_27 mi_27 rfl (tyX12_ok 27 (by decide)) dX12_usual_144 (fun H locs hM => ?_)
    obtain ⟨I3, ev, hf⟩ := m_bndE hf
    replace hM := m_hI hM ev
    clear ev
    refine lv_aload_n hx hb dX12_usual_147 rfl (lv_at hl 0 rfl) ?_
    refine lv_iconst (v := (0 : Int32)) hx hb dX12_usual_148 (by decide) ?_
    refine m_put X hw_usual hM 28 (by decide) fl_usual_28 mi_28 rfl (tyX12_ok 28 (by decide)) dX12_usual_149 (fun H locs hM => ?_)
    obtain ⟨I4, ev, hf⟩ := m_bndE hf
    replace hM := m_hI hM ev
    clear ev
    refine lv_aload_n hx hb dX12_usual_152 rfl (lv_at hl 0 rfl) ?_
    refine lv_iconst (v := (1 : Int32)) hx hb dX12_usual_153 (by decide) ?_
    refine m_put X hw_usual hM 29 (by decide) fl_usual_29 mi_29 rfl (tyX12_ok 29 (by decide)) dX12_usual_154 (fun H locs hM => ?_)
    obtain ⟨I5, ev, hf⟩ := m_bndE hf
    replace hM := m_hI hM ev
    clear ev
    refine lv_aload_n hx hb dX12_usual_157 rfl (lv_at hl 0 rfl) ?_
    refine lv_iload_n hx hb dX12_usual_158 rfl (lv_at hl 1 rfl) ?_
    obtain ⟨o6, ho, hf⟩ := m_clE hf
    refine m_callVv X hM (c_start ho) gX12_usual_X12_start rfl ⟨rfl, rfl⟩ hd_start ⟨Nat.le_of_ble_eq_true rfl, Nat.le_of_ble_eq_true rfl⟩ rfl hl.1 rfl (Nat.le_of_ble_eq_true rfl) dX12_usual_159 (fun H locs hM => ?_)
    clear ho
    cases hf
    exact hret H locs _ ls hM dX12_usual_162
  · replace hf := m_ifF hf cc1
    refine lv_iload_n hx hb dX12_usual_29 rfl (lv_at hl 2 rfl) ?_
    refine lv_if_eq (tgt := 39) hx hb dX12_usual_30 (by decide) (fun cc1 => ?_) (fun cc1 => ?_)
    · replace hf := m_ifT hf cc1
      exact w_usual_39 X hret hself23 hf hM (lv_sub hl [0, 1, 2] rfl)
    · replace hf := m_ifF hf cc1
      refine lv_iload_n hx hb dX12_usual_33 rfl (lv_at hl 2 rfl) ?_
      refine lv_bipush (v := (7 : Int32)) hx hb dX12_usual_34 (by decide) ?_
      refine lv_icmp_ne (tgt := 43) hx hb dX12_usual_36 (by decide) (fun cc1 => ?_) (fun cc1 => ?_)
      · replace hf := m_ifF hf cc1
        refine lv_iload_n hx hb dX12_usual_43 rfl (lv_at hl 2 rfl) ?_
        refine lv_iconst (v := (1 : Int32)) hx hb dX12_usual_44 (by decide) ?_
        refine lv_icmp_eq (tgt := 54) hx hb dX12_usual_45 (by decide) (fun cc1 => ?_) (fun cc1 => ?_)
        · replace hf := m_ifT hf cc1
          exact w_usual_54 X hret hself23 hf hM (lv_sub hl [0, 1, 2] rfl)
        · replace hf := m_ifF hf cc1
          refine lv_iload_n hx hb dX12_usual_48 rfl (lv_at hl 2 rfl) ?_
          refine lv_bipush (v := (6 : Int32)) hx hb dX12_usual_49 (by decide) ?_
          refine lv_icmp_ne (tgt := 58) hx hb dX12_usual_51 (by decide) (fun cc1 => ?_) (fun cc1 => ?_)
          · replace hf := m_ifF hf cc1
            refine lv_iload_n hx hb dX12_usual_58 rfl (lv_at hl 2 rfl) ?_
            refine lv_iconst (v := (2 : Int32)) hx hb dX12_usual_59 (by decide) ?_
            refine lv_icmp_eq (tgt := 68) hx hb dX12_usual_60 (by decide) (fun cc1 => ?_) (fun cc1 => ?_)
            · replace hf := m_ifT hf cc1
              exact w_usual_68 X hret hself23 hf hM (lv_sub hl [0, 1, 2] rfl)
            · replace hf := m_ifF hf cc1
              refine lv_iload_n hx hb dX12_usual_63 rfl (lv_at hl 2 rfl) ?_
              refine lv_iconst (v := (5 : Int32)) hx hb dX12_usual_64 (by decide) ?_
              refine lv_icmp_ne (tgt := 72) hx hb dX12_usual_65 (by decide) (fun cc1 => ?_) (fun cc1 => ?_)
              · replace hf := m_ifF hf cc1
                refine lv_iload_n hx hb dX12_usual_72 rfl (lv_at hl 2 rfl) ?_
                refine lv_iconst (v := (3 : Int32)) hx hb dX12_usual_73 (by decide) ?_
                refine lv_icmp_ne (tgt := 81) hx hb dX12_usual_74 (by decide) (fun cc1 => ?_) (fun cc1 => ?_)
                · replace hf := m_ifF hf cc1
                  refine lv_bipush (v := (6 : Int32)) hx hb dX12_usual_81 (by decide) ?_
                  exact w_usual_83 X hret hself23 hf hM (lv_sub hl [0, 1, 2] rfl)
                · replace hf := m_ifT hf cc1
                  refine lv_iconst (v := (5 : Int32)) hx hb dX12_usual_77 (by decide) ?_
                  refine lv_goto (tgt := 83) hx hb dX12_usual_78 (by decide) ?_
                  exact w_usual_83 X hret hself23 hf hM (lv_sub hl [0, 1, 2] rfl)
              · replace hf := m_ifT hf cc1
                exact w_usual_68 X hret hself23 hf hM (lv_sub hl [0, 1, 2] rfl)
          · replace hf := m_ifT hf cc1
            exact w_usual_54 X hret hself23 hf hM (lv_sub hl [0, 1, 2] rfl)
      · replace hf := m_ifT hf cc1
        exact w_usual_39 X hret hself23 hf hM (lv_sub hl [0, 1, 2] rfl)
noncomputable def f_usual_23 : Nat → Int32 → Int32 → (Nat → Int32) → (Nat → Nat → Int32) → Option (Int32 × MS)
  | 0 => fun _ _ _ _ => none
  | n + 1 => f_usual_23s (f_usual_23 n)
theorem w_usual_23 {p : Program} {l : Launch} {e : Env} {s : State} {m : MethodId} {args : Array Value} {below : List Frame} {meth : Method} {c : Code} {Q : State → Prop} {D : va_G} {cy ci : ClassId} {h : Nat → Nat} {A0 : Nat → Prop} {o : Int32 × MS} (X : CallFix p m c cX12_usual 4 s args wsX12_usual RX12) (hret : mRv p l e ({ frames := 1, cells := 0, slots := 0, locals := 22 } : Room) s m args below meth c Q cX12_usual D cy ci h A0 o) (n : Nat) : ∀ (x1 : Int32) (x2 : Int32) (I : Nat → Int32) (A : Nat → Nat → Int32) (H : Heap) (locs : List Loc) (ls : Array Slot), f_usual_23 n x1 x2 I A = some o → mH D cy ci h A0 s H locs I A → lv_has ls 4 [(0, .ref (h 0)), (1, .int x1), (2, .int x2)] → W p l e ({ frames := 1, cells := 0, slots := 0, locals := 22 } : Room) s m args below meth c H locs 0 0 Q (F0 m 23 ls []) := by
  induction n with
  | zero => intro x1 x2 I A H locs ls hf; cases hf
  | succ n ih => intro x1 x2 I A H locs ls hf hM hl; exact ws_usual_23 X hret (self23 := f_usual_23 n) ih hf hM hl
noncomputable def f_usual_2s (self2 : Int32 → Int32 → (Nat → Int32) → (Nat → Nat → Int32) → Option (Int32 × MS)) (x1 : Int32) (x2 : Int32) (I : Nat → Int32) (A : Nat → Nat → Int32) : Option (Int32 × MS) :=
  m_if ((64 : Int32) ≤ x2) (
  f_usual_23 mFuel x1 (0 : Int32) I A
  ) (
  m_chk (¬ (x2 < 0 ∨ 64 ≤ (x2).toNatClampNeg)) (
  m_bnd (va_up A 24 (upd (A 24) (x2).toNatClampNeg (0 : Int32))) (fun A1 =>
  m_bnd (x2 + (1 : Int32)) (fun v2 =>
  self2 x1 v2 I A1)))
  )

set_option maxRecDepth 100000 in
set_option maxHeartbeats 4000000 in
theorem ws_usual_2 {p : Program} {l : Launch} {e : Env} {s : State} {m : MethodId} {args : Array Value} {below : List Frame} {meth : Method} {c : Code} {Q : State → Prop} {D : va_G} {cy ci : ClassId} {h : Nat → Nat} {A0 : Nat → Prop} {o : Int32 × MS} (X : CallFix p m c cX12_usual 4 s args wsX12_usual RX12) (hret : mRv p l e ({ frames := 1, cells := 0, slots := 0, locals := 22 } : Room) s m args below meth c Q cX12_usual D cy ci h A0 o) {self2 : Int32 → Int32 → (Nat → Int32) → (Nat → Nat → Int32) → Option (Int32 × MS)} (hself2 : ∀ (x1 : Int32) (x2 : Int32) (I : Nat → Int32) (A : Nat → Nat → Int32) (H : Heap) (locs : List Loc) (ls : Array Slot), self2 x1 x2 I A = some o → mH D cy ci h A0 s H locs I A → lv_has ls 4 [(0, .ref (h 0)), (1, .int x1), (2, .int x2)] → W p l e ({ frames := 1, cells := 0, slots := 0, locals := 22 } : Room) s m args below meth c H locs 0 0 Q (F0 m 2 ls [])) {x1 : Int32} {x2 : Int32} {I : Nat → Int32} {A : Nat → Nat → Int32} {H : Heap} {locs : List Loc} {ls : Array Slot} (hf : f_usual_2s self2 x1 x2 I A = some o) (hM : mH D cy ci h A0 s H locs I A) (hl : lv_has ls 4 [(0, .ref (h 0)), (1, .int x1), (2, .int x2)]) : W p l e ({ frames := 1, cells := 0, slots := 0, locals := 22 } : Room) s m args below meth c H locs 0 0 Q (F0 m 2 ls []) := by
  obtain ⟨hx, hb, hml, hown, hts⟩ := id X
  unfold f_usual_2s at hf
  refine lv_iload_n hx hb dX12_usual_2 rfl (lv_at hl 2 rfl) ?_
  refine lv_bipush (v := (64 : Int32)) hx hb dX12_usual_3 (by decide) ?_
  refine lv_icmp_ge (tgt := 21) hx hb dX12_usual_5 (by decide) (fun cc1 => ?_) (fun cc1 => ?_)
  · replace hf := m_ifT hf cc1
    refine lv_iconst (v := (0 : Int32)) hx hb dX12_usual_21 (by decide) ?_
    refine lv_istore_n (lv' := [(2, .int (0 : Int32)), (0, .ref (h 0)), (1, .int x1)]) hx hb dX12_usual_22 rfl hl (by decide) rfl (fun ls hl => ?_)
    exact w_usual_23 X hret _ _ _ _ _ _ _ _ hf hM (lv_sub hl [1, 2, 0] rfl)
  · replace hf := m_ifF hf cc1
    refine lv_aload_n hx hb dX12_usual_8 rfl (lv_at hl 0 rfl) ?_
    refine m_get (v := .ref (h 24)) X hw_usual hM 24 (by decide) fl_usual_24 rfl dX12_usual_9 ?_
    refine lv_iload_n hx hb dX12_usual_12 rfl (lv_at hl 2 rfl) ?_
    refine lv_iconst (v := (0 : Int32)) hx hb dX12_usual_13 (by decide) ?_
    obtain ⟨cd, hf⟩ := m_chkE hf
    refine m_iast X hM 24 20 64 rfl ma_24 cd dX12_usual_14 (fun H locs hM => ?_)
    clear cd
    obtain ⟨A1, ev, hf⟩ := m_bndE hf
    replace hM := m_hA hM ev
    clear ev
    obtain ⟨v2, ev, hf⟩ := m_bndE hf
    refine lv_iinc (v := v2) (lv' := [(2, .int v2), (0, .ref (h 0)), (1, .int x1)]) hx hb dX12_usual_15 hl (k := 2) rfl (by rw [ev]; rfl) (by decide) rfl (fun ls hl => ?_)
    clear ev
    refine lv_goto (tgt := 2) hx hb dX12_usual_18 (by decide) ?_
    exact hself2 _ _ _ _ _ _ _ hf hM (lv_sub hl [1, 2, 0] rfl)
noncomputable def f_usual_2 : Nat → Int32 → Int32 → (Nat → Int32) → (Nat → Nat → Int32) → Option (Int32 × MS)
  | 0 => fun _ _ _ _ => none
  | n + 1 => f_usual_2s (f_usual_2 n)
theorem w_usual_2 {p : Program} {l : Launch} {e : Env} {s : State} {m : MethodId} {args : Array Value} {below : List Frame} {meth : Method} {c : Code} {Q : State → Prop} {D : va_G} {cy ci : ClassId} {h : Nat → Nat} {A0 : Nat → Prop} {o : Int32 × MS} (X : CallFix p m c cX12_usual 4 s args wsX12_usual RX12) (hret : mRv p l e ({ frames := 1, cells := 0, slots := 0, locals := 22 } : Room) s m args below meth c Q cX12_usual D cy ci h A0 o) (n : Nat) : ∀ (x1 : Int32) (x2 : Int32) (I : Nat → Int32) (A : Nat → Nat → Int32) (H : Heap) (locs : List Loc) (ls : Array Slot), f_usual_2 n x1 x2 I A = some o → mH D cy ci h A0 s H locs I A → lv_has ls 4 [(0, .ref (h 0)), (1, .int x1), (2, .int x2)] → W p l e ({ frames := 1, cells := 0, slots := 0, locals := 22 } : Room) s m args below meth c H locs 0 0 Q (F0 m 2 ls []) := by
  induction n with
  | zero => intro x1 x2 I A H locs ls hf; cases hf
  | succ n ih => intro x1 x2 I A H locs ls hf hM hl; exact ws_usual_2 X hret (self2 := f_usual_2 n) ih hf hM hl
noncomputable def f_usual_0 (x1 : Int32) (I : Nat → Int32) (A : Nat → Nat → Int32) : Option (Int32 × MS) :=
  f_usual_2 mFuel x1 (0 : Int32) I A

set_option maxRecDepth 100000 in
set_option maxHeartbeats 4000000 in
theorem w_usual_0 {p : Program} {l : Launch} {e : Env} {s : State} {m : MethodId} {args : Array Value} {below : List Frame} {meth : Method} {c : Code} {Q : State → Prop} {D : va_G} {cy ci : ClassId} {h : Nat → Nat} {A0 : Nat → Prop} {o : Int32 × MS} (X : CallFix p m c cX12_usual 4 s args wsX12_usual RX12) (hret : mRv p l e ({ frames := 1, cells := 0, slots := 0, locals := 22 } : Room) s m args below meth c Q cX12_usual D cy ci h A0 o) {x1 : Int32} {I : Nat → Int32} {A : Nat → Nat → Int32} {H : Heap} {locs : List Loc} {ls : Array Slot} (hf : f_usual_0 x1 I A = some o) (hM : mH D cy ci h A0 s H locs I A) (hl : lv_has ls 4 [(0, .ref (h 0)), (1, .int x1)]) : W p l e ({ frames := 1, cells := 0, slots := 0, locals := 22 } : Room) s m args below meth c H locs 0 0 Q (F0 m 0 ls []) := by
  obtain ⟨hx, hb, hml, hown, hts⟩ := id X
  unfold f_usual_0 at hf
  refine lv_iconst (v := (0 : Int32)) hx hb dX12_usual_0 (by decide) ?_
  refine lv_istore_n (lv' := [(2, .int (0 : Int32)), (0, .ref (h 0)), (1, .int x1)]) hx hb dX12_usual_1 rfl hl (by decide) rfl (fun ls hl => ?_)
  exact w_usual_2 X hret _ _ _ _ _ _ _ _ hf hM (lv_sub hl [1, 2, 0] rfl)
noncomputable def f_usual (x1 : Int32) (I : Nat → Int32) (A : Nat → Nat → Int32) : Option (Int32 × MS) := f_usual_0 x1 I A
theorem c_usual {l : Launch} {D : va_G} {cy ci : ClassId} {h : Nat → Nat} {x1 : Int32} {I : Nat → Int32} {A : Nat → Nat → Int32} {o : Int32 × MS} (hf : f_usual x1 I A = some o) : mMv l yX12_usual wsX12_usual ({ frames := 1, cells := 0, slots := 0, locals := 22 } : Room) [.ref (h 0), .int x1] D cy ci h I A o :=
  m_entryV (cc := cX12_usual) (maxL := 4) (by decide) rfl rfl (Nat.le_of_ble_eq_true rfl) (fun p e s m args below meth c A0 Q H locs ls X hret hM hl => w_usual_0 X hret hf hM (lv_sub hl [0, 1] rfl))
theorem hd_kind : yX12_kind.cls ≠ "java/lang/invoke/MethodHandle" ∧ yX12_kind.cls ≠ "java/lang/invoke/VarHandle" ∧ (parseMethodDescriptor yX12_kind.desc).map (fun d => d.parameters.length) = some 1 := by decide +kernel
noncomputable def f_kind_0 (x0 : Int32) (I : Nat → Int32) (A : Nat → Nat → Int32) : Option (Int32 × MS) :=
  m_bnd (x0 &&& (7 : Int32)) (fun v1 =>
  some (v1, (I, A)))

set_option maxRecDepth 100000 in
set_option maxHeartbeats 4000000 in
theorem w_kind_0 {p : Program} {l : Launch} {e : Env} {s : State} {m : MethodId} {args : Array Value} {below : List Frame} {meth : Method} {c : Code} {Q : State → Prop} {D : va_G} {cy ci : ClassId} {h : Nat → Nat} {A0 : Nat → Prop} {o : Int32 × MS} (X : CallFix p m c cX12_kind 1 s args wsX12_kind RX12) (hret : mRi p l e ({ frames := 0, cells := 0, slots := 0, locals := 0 } : Room) s m args below meth c Q cX12_kind D cy ci h A0 .int o) {x0 : Int32} {I : Nat → Int32} {A : Nat → Nat → Int32} {H : Heap} {locs : List Loc} {ls : Array Slot} (hf : f_kind_0 x0 I A = some o) (hM : mH D cy ci h A0 s H locs I A) (hl : lv_has ls 1 [(0, .int x0)]) : W p l e ({ frames := 0, cells := 0, slots := 0, locals := 0 } : Room) s m args below meth c H locs 0 0 Q (F0 m 0 ls []) := by
  obtain ⟨hx, hb, hml, hown, hts⟩ := id X
  unfold f_kind_0 at hf
  refine lv_iload_n hx hb dX12_kind_0 rfl (lv_at hl 0 rfl) ?_
  refine lv_bipush (v := (7 : Int32)) hx hb dX12_kind_1 (by decide) ?_
  refine lv_iand hx hb dX12_kind_3 ?_
  obtain ⟨v1, ev, hf⟩ := m_bndE hf
  refine m_top ev ?_
  clear ev
  cases hf
  exact hret H locs _ ls hM rfl dX12_kind_4
noncomputable def f_kind (x0 : Int32) (I : Nat → Int32) (A : Nat → Nat → Int32) : Option (Int32 × MS) := f_kind_0 x0 I A
theorem c_kind {l : Launch} {D : va_G} {cy ci : ClassId} {h : Nat → Nat} {x0 : Int32} {I : Nat → Int32} {A : Nat → Nat → Int32} {o : Int32 × MS} (hf : f_kind x0 I A = some o) : mMi l yX12_kind wsX12_kind ({ frames := 0, cells := 0, slots := 0, locals := 0 } : Room) [.int x0] D cy ci h I A o :=
  m_entryI (cc := cX12_kind) (maxL := 1) (by decide) rfl rfl (Nat.le_of_ble_eq_true rfl) (fun p e s m args below meth c A0 Q H locs ls X hret hM hl => w_kind_0 X hret hf hM (lv_sub hl [0] rfl))
theorem hw_isTaking : ∀ w ∈ wsX120, w ∈ wsX12_isTaking := by decide +kernel
theorem fl_isTaking_24 : Cond.fieldLink RX12 70 "MoveTextsModel" "men" "[I" ∈ wsX12_isTaking := by decide +kernel
theorem hd_isTaking : yX12_isTaking.cls = RX12 ∧ yX12_isTaking.cls ≠ "java/lang/invoke/MethodHandle" ∧ yX12_isTaking.cls ≠ "java/lang/invoke/VarHandle" ∧ (parseMethodDescriptor yX12_isTaking.desc).map (fun d => d.parameters.length) = some 1 := by decide +kernel
noncomputable def f_isTaking_51 (t0 : Int32) (I : Nat → Int32) (A : Nat → Nat → Int32) : Option (Int32 × MS) :=
  m_chk (vp_nar .boolean t0 = t0) (some (t0, (I, A)))

set_option maxRecDepth 100000 in
set_option maxHeartbeats 4000000 in
theorem w_isTaking_51 {p : Program} {l : Launch} {e : Env} {s : State} {m : MethodId} {args : Array Value} {below : List Frame} {meth : Method} {c : Code} {Q : State → Prop} {D : va_G} {cy ci : ClassId} {h : Nat → Nat} {A0 : Nat → Prop} {o : Int32 × MS} (X : CallFix p m c cX12_isTaking 4 s args wsX12_isTaking RX12) (hret : mRi p l e ({ frames := 1, cells := 0, slots := 0, locals := 20 } : Room) s m args below meth c Q cX12_isTaking D cy ci h A0 .boolean o) {t0 : Int32} {I : Nat → Int32} {A : Nat → Nat → Int32} {H : Heap} {locs : List Loc} {ls : Array Slot} (hf : f_isTaking_51 t0 I A = some o) (hM : mH D cy ci h A0 s H locs I A) (hl : lv_has ls 4 []) : W p l e ({ frames := 1, cells := 0, slots := 0, locals := 20 } : Room) s m args below meth c H locs 0 0 Q (F0 m 51 ls [.int t0]) := by
  obtain ⟨hx, hb, hml, hown, hts⟩ := id X
  unfold f_isTaking_51 at hf
  obtain ⟨cd, hf⟩ := m_chkE hf
  cases hf
  exact hret H locs _ ls hM (m_nb cd) dX12_isTaking_51
noncomputable def f_isTaking_46 (I : Nat → Int32) (A : Nat → Nat → Int32) : Option (Int32 × MS) :=
  f_isTaking_51 (1 : Int32) I A

set_option maxRecDepth 100000 in
set_option maxHeartbeats 4000000 in
theorem w_isTaking_46 {p : Program} {l : Launch} {e : Env} {s : State} {m : MethodId} {args : Array Value} {below : List Frame} {meth : Method} {c : Code} {Q : State → Prop} {D : va_G} {cy ci : ClassId} {h : Nat → Nat} {A0 : Nat → Prop} {o : Int32 × MS} (X : CallFix p m c cX12_isTaking 4 s args wsX12_isTaking RX12) (hret : mRi p l e ({ frames := 1, cells := 0, slots := 0, locals := 20 } : Room) s m args below meth c Q cX12_isTaking D cy ci h A0 .boolean o) {I : Nat → Int32} {A : Nat → Nat → Int32} {H : Heap} {locs : List Loc} {ls : Array Slot} (hf : f_isTaking_46  I A = some o) (hM : mH D cy ci h A0 s H locs I A) (hl : lv_has ls 4 []) : W p l e ({ frames := 1, cells := 0, slots := 0, locals := 20 } : Room) s m args below meth c H locs 0 0 Q (F0 m 46 ls []) := by
  obtain ⟨hx, hb, hml, hown, hts⟩ := id X
  unfold f_isTaking_46 at hf
  refine lv_iconst (v := (1 : Int32)) hx hb dX12_isTaking_46 (by decide) ?_
  refine lv_goto (tgt := 51) hx hb dX12_isTaking_47 (by decide) ?_
  exact w_isTaking_51 X hret hf hM (lv_sub hl [] rfl)
noncomputable def f_isTaking_50 (I : Nat → Int32) (A : Nat → Nat → Int32) : Option (Int32 × MS) :=
  f_isTaking_51 (0 : Int32) I A

set_option maxRecDepth 100000 in
set_option maxHeartbeats 4000000 in
theorem w_isTaking_50 {p : Program} {l : Launch} {e : Env} {s : State} {m : MethodId} {args : Array Value} {below : List Frame} {meth : Method} {c : Code} {Q : State → Prop} {D : va_G} {cy ci : ClassId} {h : Nat → Nat} {A0 : Nat → Prop} {o : Int32 × MS} (X : CallFix p m c cX12_isTaking 4 s args wsX12_isTaking RX12) (hret : mRi p l e ({ frames := 1, cells := 0, slots := 0, locals := 20 } : Room) s m args below meth c Q cX12_isTaking D cy ci h A0 .boolean o) {I : Nat → Int32} {A : Nat → Nat → Int32} {H : Heap} {locs : List Loc} {ls : Array Slot} (hf : f_isTaking_50  I A = some o) (hM : mH D cy ci h A0 s H locs I A) (hl : lv_has ls 4 []) : W p l e ({ frames := 1, cells := 0, slots := 0, locals := 20 } : Room) s m args below meth c H locs 0 0 Q (F0 m 50 ls []) := by
  obtain ⟨hx, hb, hml, hown, hts⟩ := id X
  unfold f_isTaking_50 at hf
  refine lv_iconst (v := (0 : Int32)) hx hb dX12_isTaking_50 (by decide) ?_
  exact w_isTaking_51 X hret hf hM (lv_sub hl [] rfl)
noncomputable def f_isTaking_0 (x1 : Int32) (I : Nat → Int32) (A : Nat → Nat → Int32) : Option (Int32 × MS) :=
  m_bnd (x1 - x1 / (64 : Int32) * (64 : Int32)) (fun v1 =>
  m_bnd (x1 / (64 : Int32)) (fun v2 =>
  m_bnd (v2 - v2 / (64 : Int32) * (64 : Int32)) (fun v3 =>
  m_chk (¬ (v3 < 0 ∨ 64 ≤ (v3).toNatClampNeg)) (
  m_bnd (A 24 (v3).toNatClampNeg) (fun v4 =>
  m_if (v4 = 0) (
  m_chk (¬ (v1 < 0 ∨ 64 ≤ (v1).toNatClampNeg)) (
  m_bnd (A 24 (v1).toNatClampNeg) (fun v5 =>
  m_cl (f_kind v5 I A) (fun r6 Ic6 Ac6 =>
  m_if (r6 = (1 : Int32)) (
  m_bnd (v1 - v1 / (8 : Int32) * (8 : Int32)) (fun v7 =>
  m_bnd (v3 - v3 / (8 : Int32) * (8 : Int32)) (fun v8 =>
  m_if (v7 = v8) (
  f_isTaking_50  Ic6 Ac6
  ) (
  f_isTaking_46  Ic6 Ac6
  )))
  ) (
  f_isTaking_50  Ic6 Ac6
  ))))
  ) (
  f_isTaking_46  I A
  ))))))

set_option maxRecDepth 100000 in
set_option maxHeartbeats 4000000 in
theorem w_isTaking_0 {p : Program} {l : Launch} {e : Env} {s : State} {m : MethodId} {args : Array Value} {below : List Frame} {meth : Method} {c : Code} {Q : State → Prop} {D : va_G} {cy ci : ClassId} {h : Nat → Nat} {A0 : Nat → Prop} {o : Int32 × MS} (X : CallFix p m c cX12_isTaking 4 s args wsX12_isTaking RX12) (hret : mRi p l e ({ frames := 1, cells := 0, slots := 0, locals := 20 } : Room) s m args below meth c Q cX12_isTaking D cy ci h A0 .boolean o) {x1 : Int32} {I : Nat → Int32} {A : Nat → Nat → Int32} {H : Heap} {locs : List Loc} {ls : Array Slot} (hf : f_isTaking_0 x1 I A = some o) (hM : mH D cy ci h A0 s H locs I A) (hl : lv_has ls 4 [(0, .ref (h 0)), (1, .int x1)]) : W p l e ({ frames := 1, cells := 0, slots := 0, locals := 20 } : Room) s m args below meth c H locs 0 0 Q (F0 m 0 ls []) := by
  obtain ⟨hx, hb, hml, hown, hts⟩ := id X
  unfold f_isTaking_0 at hf
  refine lv_iload_n hx hb dX12_isTaking_0 rfl (lv_at hl 1 rfl) ?_
  refine lv_bipush (v := (64 : Int32)) hx hb dX12_isTaking_1 (by decide) ?_
  refine lv_irem hx hb dX12_isTaking_3 (by decide) ?_
  obtain ⟨v1, ev, hf⟩ := m_bndE hf
  refine m_top ev ?_
  clear ev
  refine lv_istore_n (lv' := [(2, .int v1), (0, .ref (h 0)), (1, .int x1)]) hx hb dX12_isTaking_4 rfl hl (by decide) rfl (fun ls hl => ?_)
  refine lv_iload_n hx hb dX12_isTaking_5 rfl (lv_at hl 2 rfl) ?_
  refine lv_bipush (v := (64 : Int32)) hx hb dX12_isTaking_6 (by decide) ?_
  refine lv_idiv hx hb dX12_isTaking_8 (by decide) ?_
  obtain ⟨v2, ev, hf⟩ := m_bndE hf
  refine m_top ev ?_
  clear ev
  refine lv_bipush (v := (64 : Int32)) hx hb dX12_isTaking_9 (by decide) ?_
  refine lv_irem hx hb dX12_isTaking_11 (by decide) ?_
  obtain ⟨v3, ev, hf⟩ := m_bndE hf
  refine m_top ev ?_
  clear ev
  refine lv_istore_n (lv' := [(3, .int v3), (2, .int v1), (0, .ref (h 0)), (1, .int x1)]) hx hb dX12_isTaking_12 rfl hl (by decide) rfl (fun ls hl => ?_)
  refine lv_aload_n hx hb dX12_isTaking_13 rfl (lv_at hl 2 rfl) ?_
  refine m_get (v := .ref (h 24)) X hw_isTaking hM 24 (by decide) fl_isTaking_24 rfl dX12_isTaking_14 ?_
  refine lv_iload_n hx hb dX12_isTaking_17 rfl (lv_at hl 0 rfl) ?_
  obtain ⟨cd, hf⟩ := m_chkE hf
  refine m_iald X hM 24 20 64 rfl cd dX12_isTaking_18 ?_
  clear cd
  obtain ⟨v4, ev, hf⟩ := m_bndE hf
  refine m_top ev ?_
  clear ev
  refine lv_if_ne (tgt := 46) hx hb dX12_isTaking_19 (by decide) (fun cc1 => ?_) (fun cc1 => ?_)
  · replace hf := m_ifF hf cc1
    exact w_isTaking_46 X hret hf hM (lv_sub hl [] rfl)
  · replace hf := m_ifT hf cc1
    refine lv_aload_n hx hb dX12_isTaking_22 rfl (lv_at hl 2 rfl) ?_
    refine m_get (v := .ref (h 24)) X hw_isTaking hM 24 (by decide) fl_isTaking_24 rfl dX12_isTaking_23 ?_
    refine lv_iload_n hx hb dX12_isTaking_26 rfl (lv_at hl 1 rfl) ?_
    obtain ⟨cd, hf⟩ := m_chkE hf
    refine m_iald X hM 24 20 64 rfl cd dX12_isTaking_27 ?_
    clear cd
    obtain ⟨v5, ev, hf⟩ := m_bndE hf
    refine m_top ev ?_
    clear ev
    obtain ⟨o6, ho, hf⟩ := m_clE hf
    refine m_callSi X hM (c_kind ho) gX12_isTaking_X12_kind rfl ⟨rfl, rfl⟩ hd_kind ⟨Nat.le_of_ble_eq_true rfl, Nat.le_of_ble_eq_true rfl⟩ rfl hl.1 rfl (Nat.le_of_ble_eq_true rfl) dX12_isTaking_28 (fun H locs hM => ?_)
    clear ho
    refine lv_iconst (v := (1 : Int32)) hx hb dX12_isTaking_31 (by decide) ?_
    refine lv_icmp_ne (tgt := 50) hx hb dX12_isTaking_32 (by decide) (fun cc1 => ?_) (fun cc1 => ?_)
    · replace hf := m_ifF hf cc1
      exact w_isTaking_50 X hret hf hM (lv_sub hl [] rfl)
    · replace hf := m_ifT hf cc1
      refine lv_iload_n hx hb dX12_isTaking_35 rfl (lv_at hl 1 rfl) ?_
      refine lv_bipush (v := (8 : Int32)) hx hb dX12_isTaking_36 (by decide) ?_
      refine lv_irem hx hb dX12_isTaking_38 (by decide) ?_
      obtain ⟨v7, ev, hf⟩ := m_bndE hf
      refine m_top ev ?_
      clear ev
      refine lv_iload_n hx hb dX12_isTaking_39 rfl (lv_at hl 0 rfl) ?_
      refine lv_bipush (v := (8 : Int32)) hx hb dX12_isTaking_40 (by decide) ?_
      refine lv_irem hx hb dX12_isTaking_42 (by decide) ?_
      obtain ⟨v8, ev, hf⟩ := m_bndE hf
      refine m_top ev ?_
      clear ev
      refine lv_icmp_eq (tgt := 50) hx hb dX12_isTaking_43 (by decide) (fun cc1 => ?_) (fun cc1 => ?_)
      · replace hf := m_ifT hf cc1
        exact w_isTaking_50 X hret hf hM (lv_sub hl [] rfl)
      · replace hf := m_ifF hf cc1
        exact w_isTaking_46 X hret hf hM (lv_sub hl [] rfl)
noncomputable def f_isTaking (x1 : Int32) (I : Nat → Int32) (A : Nat → Nat → Int32) : Option (Int32 × MS) := f_isTaking_0 x1 I A
theorem c_isTaking {l : Launch} {D : va_G} {cy ci : ClassId} {h : Nat → Nat} {x1 : Int32} {I : Nat → Int32} {A : Nat → Nat → Int32} {o : Int32 × MS} (hf : f_isTaking x1 I A = some o) : mMi l yX12_isTaking wsX12_isTaking ({ frames := 1, cells := 0, slots := 0, locals := 20 } : Room) [.ref (h 0), .int x1] D cy ci h I A o :=
  m_entryI (cc := cX12_isTaking) (maxL := 4) (by decide) rfl rfl (Nat.le_of_ble_eq_true rfl) (fun p e s m args below meth c A0 Q H locs ls X hret hM hl => w_isTaking_0 X hret hf hM (lv_sub hl [0, 1] rfl))
theorem hw_lose : ∀ w ∈ wsX120, w ∈ wsX12_lose := by decide +kernel
theorem fl_lose_26 : Cond.fieldLink RX12 124 "MoveTextsModel" "rights" "I" ∈ wsX12_lose := by decide +kernel
theorem hd_lose : yX12_lose.cls = RX12 ∧ yX12_lose.cls ≠ "java/lang/invoke/MethodHandle" ∧ yX12_lose.cls ≠ "java/lang/invoke/VarHandle" ∧ (parseMethodDescriptor yX12_lose.desc).map (fun d => d.parameters.length) = some 1 := by decide +kernel
noncomputable def f_lose_60 (t0 : Int32) (I : Nat → Int32) (A : Nat → Nat → Int32) : Option (Int32 × MS) :=
  m_bnd (t0 ^^^ (-1 : Int32)) (fun v1 =>
  m_bnd ((I 26) &&& v1) (fun v2 =>
  m_bnd (upd I 26 v2) (fun I3 =>
  some (0, (I3, A)))))

set_option maxRecDepth 100000 in
set_option maxHeartbeats 4000000 in
theorem w_lose_60 {p : Program} {l : Launch} {e : Env} {s : State} {m : MethodId} {args : Array Value} {below : List Frame} {meth : Method} {c : Code} {Q : State → Prop} {D : va_G} {cy ci : ClassId} {h : Nat → Nat} {A0 : Nat → Prop} {o : Int32 × MS} (X : CallFix p m c cX12_lose 3 s args wsX12_lose RX12) (hret : mRv p l e ({ frames := 0, cells := 0, slots := 0, locals := 0 } : Room) s m args below meth c Q cX12_lose D cy ci h A0 o) {t0 : Int32} {I : Nat → Int32} {A : Nat → Nat → Int32} {H : Heap} {locs : List Loc} {ls : Array Slot} (hf : f_lose_60 t0 I A = some o) (hM : mH D cy ci h A0 s H locs I A) (hl : lv_has ls 3 [(0, .ref (h 0))]) : W p l e ({ frames := 0, cells := 0, slots := 0, locals := 0 } : Room) s m args below meth c H locs 0 0 Q (F0 m 60 ls [.int t0]) := by
  obtain ⟨hx, hb, hml, hown, hts⟩ := id X
  unfold f_lose_60 at hf
  refine lv_istore_n (lv' := [(2, .int t0), (0, .ref (h 0))]) hx hb dX12_lose_60 rfl hl (by decide) rfl (fun ls hl => ?_)
  refine lv_aload_n hx hb dX12_lose_61 rfl (lv_at hl 1 rfl) ?_
  refine lv_aload_n hx hb dX12_lose_62 rfl (lv_at hl 1 rfl) ?_
  refine m_get (v := .int (I 26)) X hw_lose hM 26 (by decide) fl_lose_26 rfl dX12_lose_63 ?_
  refine lv_iload_n hx hb dX12_lose_66 rfl (lv_at hl 0 rfl) ?_
  refine lv_iconst (v := (-1 : Int32)) hx hb dX12_lose_67 (by decide) ?_
  refine lv_ixor hx hb dX12_lose_68 ?_
  obtain ⟨v1, ev, hf⟩ := m_bndE hf
  refine m_top ev ?_
  clear ev
  refine lv_iand hx hb dX12_lose_69 ?_
  obtain ⟨v2, ev, hf⟩ := m_bndE hf
  refine m_top ev ?_
  clear ev
  refine m_put X hw_lose hM 26 (by decide) fl_lose_26 mi_26 rfl (tyX12_ok 26 (by decide)) dX12_lose_70 (fun H locs hM => ?_)
  obtain ⟨I3, ev, hf⟩ := m_bndE hf
  replace hM := m_hI hM ev
  clear ev
  cases hf
  exact hret H locs _ ls hM dX12_lose_73
noncomputable def f_lose_0 (x1 : Int32) (I : Nat → Int32) (A : Nat → Nat → Int32) : Option (Int32 × MS) :=
  m_if (x1 = (4 : Int32)) (
  f_lose_60 (3 : Int32) I A
  ) (
  m_if (x1 = (7 : Int32)) (
  f_lose_60 (1 : Int32) I A
  ) (
  m_if (x1 = 0) (
  f_lose_60 (2 : Int32) I A
  ) (
  m_if (x1 = (60 : Int32)) (
  f_lose_60 (12 : Int32) I A
  ) (
  m_if (x1 = (63 : Int32)) (
  f_lose_60 (4 : Int32) I A
  ) (
  m_if (x1 = (56 : Int32)) (
  f_lose_60 (8 : Int32) I A
  ) (
  f_lose_60 (0 : Int32) I A
  )
  )
  )
  )
  )
  )

set_option maxRecDepth 100000 in
set_option maxHeartbeats 4000000 in
theorem w_lose_0 {p : Program} {l : Launch} {e : Env} {s : State} {m : MethodId} {args : Array Value} {below : List Frame} {meth : Method} {c : Code} {Q : State → Prop} {D : va_G} {cy ci : ClassId} {h : Nat → Nat} {A0 : Nat → Prop} {o : Int32 × MS} (X : CallFix p m c cX12_lose 3 s args wsX12_lose RX12) (hret : mRv p l e ({ frames := 0, cells := 0, slots := 0, locals := 0 } : Room) s m args below meth c Q cX12_lose D cy ci h A0 o) {x1 : Int32} {I : Nat → Int32} {A : Nat → Nat → Int32} {H : Heap} {locs : List Loc} {ls : Array Slot} (hf : f_lose_0 x1 I A = some o) (hM : mH D cy ci h A0 s H locs I A) (hl : lv_has ls 3 [(0, .ref (h 0)), (1, .int x1)]) : W p l e ({ frames := 0, cells := 0, slots := 0, locals := 0 } : Room) s m args below meth c H locs 0 0 Q (F0 m 0 ls []) := by
  obtain ⟨hx, hb, hml, hown, hts⟩ := id X
  unfold f_lose_0 at hf
  refine lv_iload_n hx hb dX12_lose_0 rfl (lv_at hl 1 rfl) ?_
  refine lv_iconst (v := (4 : Int32)) hx hb dX12_lose_1 (by decide) ?_
  refine lv_icmp_ne (tgt := 9) hx hb dX12_lose_2 (by decide) (fun cc1 => ?_) (fun cc1 => ?_)
  · replace hf := m_ifF hf cc1
    refine lv_iload_n hx hb dX12_lose_9 rfl (lv_at hl 1 rfl) ?_
    refine lv_bipush (v := (7 : Int32)) hx hb dX12_lose_10 (by decide) ?_
    refine lv_icmp_ne (tgt := 19) hx hb dX12_lose_12 (by decide) (fun cc1 => ?_) (fun cc1 => ?_)
    · replace hf := m_ifF hf cc1
      refine lv_iload_n hx hb dX12_lose_19 rfl (lv_at hl 1 rfl) ?_
      refine lv_if_ne (tgt := 27) hx hb dX12_lose_20 (by decide) (fun cc1 => ?_) (fun cc1 => ?_)
      · replace hf := m_ifF hf cc1
        refine lv_iload_n hx hb dX12_lose_27 rfl (lv_at hl 1 rfl) ?_
        refine lv_bipush (v := (60 : Int32)) hx hb dX12_lose_28 (by decide) ?_
        refine lv_icmp_ne (tgt := 38) hx hb dX12_lose_30 (by decide) (fun cc1 => ?_) (fun cc1 => ?_)
        · replace hf := m_ifF hf cc1
          refine lv_iload_n hx hb dX12_lose_38 rfl (lv_at hl 1 rfl) ?_
          refine lv_bipush (v := (63 : Int32)) hx hb dX12_lose_39 (by decide) ?_
          refine lv_icmp_ne (tgt := 48) hx hb dX12_lose_41 (by decide) (fun cc1 => ?_) (fun cc1 => ?_)
          · replace hf := m_ifF hf cc1
            refine lv_iload_n hx hb dX12_lose_48 rfl (lv_at hl 1 rfl) ?_
            refine lv_bipush (v := (56 : Int32)) hx hb dX12_lose_49 (by decide) ?_
            refine lv_icmp_ne (tgt := 59) hx hb dX12_lose_51 (by decide) (fun cc1 => ?_) (fun cc1 => ?_)
            · replace hf := m_ifF hf cc1
              refine lv_iconst (v := (0 : Int32)) hx hb dX12_lose_59 (by decide) ?_
              exact w_lose_60 X hret hf hM (lv_sub hl [0] rfl)
            · replace hf := m_ifT hf cc1
              refine lv_bipush (v := (8 : Int32)) hx hb dX12_lose_54 (by decide) ?_
              refine lv_goto (tgt := 60) hx hb dX12_lose_56 (by decide) ?_
              exact w_lose_60 X hret hf hM (lv_sub hl [0] rfl)
          · replace hf := m_ifT hf cc1
            refine lv_iconst (v := (4 : Int32)) hx hb dX12_lose_44 (by decide) ?_
            refine lv_goto (tgt := 60) hx hb dX12_lose_45 (by decide) ?_
            exact w_lose_60 X hret hf hM (lv_sub hl [0] rfl)
        · replace hf := m_ifT hf cc1
          refine lv_bipush (v := (12 : Int32)) hx hb dX12_lose_33 (by decide) ?_
          refine lv_goto (tgt := 60) hx hb dX12_lose_35 (by decide) ?_
          exact w_lose_60 X hret hf hM (lv_sub hl [0] rfl)
      · replace hf := m_ifT hf cc1
        refine lv_iconst (v := (2 : Int32)) hx hb dX12_lose_23 (by decide) ?_
        refine lv_goto (tgt := 60) hx hb dX12_lose_24 (by decide) ?_
        exact w_lose_60 X hret hf hM (lv_sub hl [0] rfl)
    · replace hf := m_ifT hf cc1
      refine lv_iconst (v := (1 : Int32)) hx hb dX12_lose_15 (by decide) ?_
      refine lv_goto (tgt := 60) hx hb dX12_lose_16 (by decide) ?_
      exact w_lose_60 X hret hf hM (lv_sub hl [0] rfl)
  · replace hf := m_ifT hf cc1
    refine lv_iconst (v := (3 : Int32)) hx hb dX12_lose_5 (by decide) ?_
    refine lv_goto (tgt := 60) hx hb dX12_lose_6 (by decide) ?_
    exact w_lose_60 X hret hf hM (lv_sub hl [0] rfl)
noncomputable def f_lose (x1 : Int32) (I : Nat → Int32) (A : Nat → Nat → Int32) : Option (Int32 × MS) := f_lose_0 x1 I A
theorem c_lose {l : Launch} {D : va_G} {cy ci : ClassId} {h : Nat → Nat} {x1 : Int32} {I : Nat → Int32} {A : Nat → Nat → Int32} {o : Int32 × MS} (hf : f_lose x1 I A = some o) : mMv l yX12_lose wsX12_lose ({ frames := 0, cells := 0, slots := 0, locals := 0 } : Room) [.ref (h 0), .int x1] D cy ci h I A o :=
  m_entryV (cc := cX12_lose) (maxL := 3) (by decide) rfl rfl (Nat.le_of_ble_eq_true rfl) (fun p e s m args below meth c A0 Q H locs ls X hret hM hl => w_lose_0 X hret hf hM (lv_sub hl [0, 1] rfl))
theorem hd_step : yX12_step.cls ≠ "java/lang/invoke/MethodHandle" ∧ yX12_step.cls ≠ "java/lang/invoke/VarHandle" ∧ (parseMethodDescriptor yX12_step.desc).map (fun d => d.parameters.length) = some 3 := by decide +kernel
noncomputable def f_step_48 (t0 : Int32) (I : Nat → Int32) (A : Nat → Nat → Int32) : Option (Int32 × MS) :=
  some (t0, (I, A))

set_option maxRecDepth 100000 in
set_option maxHeartbeats 4000000 in
theorem w_step_48 {p : Program} {l : Launch} {e : Env} {s : State} {m : MethodId} {args : Array Value} {below : List Frame} {meth : Method} {c : Code} {Q : State → Prop} {D : va_G} {cy ci : ClassId} {h : Nat → Nat} {A0 : Nat → Prop} {o : Int32 × MS} (X : CallFix p m c cX12_step 5 s args wsX12_step RX12) (hret : mRi p l e ({ frames := 0, cells := 0, slots := 0, locals := 0 } : Room) s m args below meth c Q cX12_step D cy ci h A0 .int o) {t0 : Int32} {I : Nat → Int32} {A : Nat → Nat → Int32} {H : Heap} {locs : List Loc} {ls : Array Slot} (hf : f_step_48 t0 I A = some o) (hM : mH D cy ci h A0 s H locs I A) (hl : lv_has ls 5 []) : W p l e ({ frames := 0, cells := 0, slots := 0, locals := 0 } : Room) s m args below meth c H locs 0 0 Q (F0 m 48 ls [.int t0]) := by
  obtain ⟨hx, hb, hml, hown, hts⟩ := id X
  unfold f_step_48 at hf
  cases hf
  exact hret H locs _ ls hM rfl dX12_step_48
noncomputable def f_step_47 (I : Nat → Int32) (A : Nat → Nat → Int32) : Option (Int32 × MS) :=
  f_step_48 (-1 : Int32) I A

set_option maxRecDepth 100000 in
set_option maxHeartbeats 4000000 in
theorem w_step_47 {p : Program} {l : Launch} {e : Env} {s : State} {m : MethodId} {args : Array Value} {below : List Frame} {meth : Method} {c : Code} {Q : State → Prop} {D : va_G} {cy ci : ClassId} {h : Nat → Nat} {A0 : Nat → Prop} {o : Int32 × MS} (X : CallFix p m c cX12_step 5 s args wsX12_step RX12) (hret : mRi p l e ({ frames := 0, cells := 0, slots := 0, locals := 0 } : Room) s m args below meth c Q cX12_step D cy ci h A0 .int o) {I : Nat → Int32} {A : Nat → Nat → Int32} {H : Heap} {locs : List Loc} {ls : Array Slot} (hf : f_step_47  I A = some o) (hM : mH D cy ci h A0 s H locs I A) (hl : lv_has ls 5 []) : W p l e ({ frames := 0, cells := 0, slots := 0, locals := 0 } : Room) s m args below meth c H locs 0 0 Q (F0 m 47 ls []) := by
  obtain ⟨hx, hb, hml, hown, hts⟩ := id X
  unfold f_step_47 at hf
  refine lv_iconst (v := (-1 : Int32)) hx hb dX12_step_47 (by decide) ?_
  exact w_step_48 X hret hf hM (lv_sub hl [] rfl)
noncomputable def f_step_0 (x0 : Int32) (x1 : Int32) (x2 : Int32) (I : Nat → Int32) (A : Nat → Nat → Int32) : Option (Int32 × MS) :=
  m_bnd (x0 - x0 / (8 : Int32) * (8 : Int32)) (fun v1 =>
  m_bnd (v1 + x1) (fun v2 =>
  m_bnd (x0 / (8 : Int32)) (fun v3 =>
  m_bnd (v3 + x2) (fun v4 =>
  m_if (v2 < 0) (
  f_step_47  I A
  ) (
  m_if ((8 : Int32) ≤ v2) (
  f_step_47  I A
  ) (
  m_if (v4 < 0) (
  f_step_47  I A
  ) (
  m_if ((8 : Int32) ≤ v4) (
  f_step_47  I A
  ) (
  m_bnd ((8 : Int32) * v4) (fun v5 =>
  m_bnd (v5 + v2) (fun v6 =>
  f_step_48 v6 I A))
  )
  )
  )
  )))))

set_option maxRecDepth 100000 in
set_option maxHeartbeats 4000000 in
theorem w_step_0 {p : Program} {l : Launch} {e : Env} {s : State} {m : MethodId} {args : Array Value} {below : List Frame} {meth : Method} {c : Code} {Q : State → Prop} {D : va_G} {cy ci : ClassId} {h : Nat → Nat} {A0 : Nat → Prop} {o : Int32 × MS} (X : CallFix p m c cX12_step 5 s args wsX12_step RX12) (hret : mRi p l e ({ frames := 0, cells := 0, slots := 0, locals := 0 } : Room) s m args below meth c Q cX12_step D cy ci h A0 .int o) {x0 : Int32} {x1 : Int32} {x2 : Int32} {I : Nat → Int32} {A : Nat → Nat → Int32} {H : Heap} {locs : List Loc} {ls : Array Slot} (hf : f_step_0 x0 x1 x2 I A = some o) (hM : mH D cy ci h A0 s H locs I A) (hl : lv_has ls 5 [(0, .int x0), (1, .int x1), (2, .int x2)]) : W p l e ({ frames := 0, cells := 0, slots := 0, locals := 0 } : Room) s m args below meth c H locs 0 0 Q (F0 m 0 ls []) := by
  obtain ⟨hx, hb, hml, hown, hts⟩ := id X
  unfold f_step_0 at hf
  refine lv_iload_n hx hb dX12_step_0 rfl (lv_at hl 0 rfl) ?_
  refine lv_bipush (v := (8 : Int32)) hx hb dX12_step_1 (by decide) ?_
  refine lv_irem hx hb dX12_step_3 (by decide) ?_
  obtain ⟨v1, ev, hf⟩ := m_bndE hf
  refine m_top ev ?_
  clear ev
  refine lv_iload_n hx hb dX12_step_4 rfl (lv_at hl 1 rfl) ?_
  refine lv_iadd hx hb dX12_step_5 ?_
  obtain ⟨v2, ev, hf⟩ := m_bndE hf
  refine m_top ev ?_
  clear ev
  refine lv_istore_n (lv' := [(3, .int v2), (0, .int x0), (1, .int x1), (2, .int x2)]) hx hb dX12_step_6 rfl hl (by decide) rfl (fun ls hl => ?_)
  refine lv_iload_n hx hb dX12_step_7 rfl (lv_at hl 1 rfl) ?_
  refine lv_bipush (v := (8 : Int32)) hx hb dX12_step_8 (by decide) ?_
  refine lv_idiv hx hb dX12_step_10 (by decide) ?_
  obtain ⟨v3, ev, hf⟩ := m_bndE hf
  refine m_top ev ?_
  clear ev
  refine lv_iload_n hx hb dX12_step_11 rfl (lv_at hl 3 rfl) ?_
  refine lv_iadd hx hb dX12_step_12 ?_
  obtain ⟨v4, ev, hf⟩ := m_bndE hf
  refine m_top ev ?_
  clear ev
  refine lv_istore (lv' := [(4, .int v4), (3, .int v2), (0, .int x0), (1, .int x1), (2, .int x2)]) hx hb dX12_step_13 hl (by decide) rfl (fun ls hl => ?_)
  refine lv_iload_n hx hb dX12_step_15 rfl (lv_at hl 1 rfl) ?_
  refine lv_if_lt (tgt := 47) hx hb dX12_step_16 (by decide) (fun cc1 => ?_) (fun cc1 => ?_)
  · replace hf := m_ifT hf cc1
    exact w_step_47 X hret hf hM (lv_sub hl [] rfl)
  · replace hf := m_ifF hf cc1
    refine lv_iload_n hx hb dX12_step_19 rfl (lv_at hl 1 rfl) ?_
    refine lv_bipush (v := (8 : Int32)) hx hb dX12_step_20 (by decide) ?_
    refine lv_icmp_ge (tgt := 47) hx hb dX12_step_22 (by decide) (fun cc1 => ?_) (fun cc1 => ?_)
    · replace hf := m_ifT hf cc1
      exact w_step_47 X hret hf hM (lv_sub hl [] rfl)
    · replace hf := m_ifF hf cc1
      refine lv_iload hx hb dX12_step_25 (lv_at hl 0 rfl) ?_
      refine lv_if_lt (tgt := 47) hx hb dX12_step_27 (by decide) (fun cc1 => ?_) (fun cc1 => ?_)
      · replace hf := m_ifT hf cc1
        exact w_step_47 X hret hf hM (lv_sub hl [] rfl)
      · replace hf := m_ifF hf cc1
        refine lv_iload hx hb dX12_step_30 (lv_at hl 0 rfl) ?_
        refine lv_bipush (v := (8 : Int32)) hx hb dX12_step_32 (by decide) ?_
        refine lv_icmp_ge (tgt := 47) hx hb dX12_step_34 (by decide) (fun cc1 => ?_) (fun cc1 => ?_)
        · replace hf := m_ifT hf cc1
          exact w_step_47 X hret hf hM (lv_sub hl [] rfl)
        · replace hf := m_ifF hf cc1
          refine lv_bipush (v := (8 : Int32)) hx hb dX12_step_37 (by decide) ?_
          refine lv_iload hx hb dX12_step_39 (lv_at hl 0 rfl) ?_
          refine lv_imul hx hb dX12_step_41 ?_
          obtain ⟨v5, ev, hf⟩ := m_bndE hf
          refine m_top ev ?_
          clear ev
          refine lv_iload_n hx hb dX12_step_42 rfl (lv_at hl 1 rfl) ?_
          refine lv_iadd hx hb dX12_step_43 ?_
          obtain ⟨v6, ev, hf⟩ := m_bndE hf
          refine m_top ev ?_
          clear ev
          refine lv_goto (tgt := 48) hx hb dX12_step_44 (by decide) ?_
          exact w_step_48 X hret hf hM (lv_sub hl [] rfl)
noncomputable def f_step (x0 : Int32) (x1 : Int32) (x2 : Int32) (I : Nat → Int32) (A : Nat → Nat → Int32) : Option (Int32 × MS) := f_step_0 x0 x1 x2 I A
theorem c_step {l : Launch} {D : va_G} {cy ci : ClassId} {h : Nat → Nat} {x0 : Int32} {x1 : Int32} {x2 : Int32} {I : Nat → Int32} {A : Nat → Nat → Int32} {o : Int32 × MS} (hf : f_step x0 x1 x2 I A = some o) : mMi l yX12_step wsX12_step ({ frames := 0, cells := 0, slots := 0, locals := 0 } : Room) [.int x0, .int x1, .int x2] D cy ci h I A o :=
  m_entryI (cc := cX12_step) (maxL := 5) (by decide) rfl rfl (Nat.le_of_ble_eq_true rfl) (fun p e s m args below meth c A0 Q H locs ls X hret hM hl => w_step_0 X hret hf hM (lv_sub hl [0, 1, 2] rfl))
theorem hw_stands : ∀ w ∈ wsX120, w ∈ wsX12_stands := by decide +kernel
theorem fl_stands_24 : Cond.fieldLink RX12 70 "MoveTextsModel" "men" "[I" ∈ wsX12_stands := by decide +kernel
theorem hd_stands : yX12_stands.cls = RX12 ∧ yX12_stands.cls ≠ "java/lang/invoke/MethodHandle" ∧ yX12_stands.cls ≠ "java/lang/invoke/VarHandle" ∧ (parseMethodDescriptor yX12_stands.desc).map (fun d => d.parameters.length) = some 2 := by decide +kernel
noncomputable def f_stands_19 (t0 : Int32) (I : Nat → Int32) (A : Nat → Nat → Int32) : Option (Int32 × MS) :=
  m_chk (vp_nar .boolean t0 = t0) (some (t0, (I, A)))

set_option maxRecDepth 100000 in
set_option maxHeartbeats 4000000 in
theorem w_stands_19 {p : Program} {l : Launch} {e : Env} {s : State} {m : MethodId} {args : Array Value} {below : List Frame} {meth : Method} {c : Code} {Q : State → Prop} {D : va_G} {cy ci : ClassId} {h : Nat → Nat} {A0 : Nat → Prop} {o : Int32 × MS} (X : CallFix p m c cX12_stands 3 s args wsX12_stands RX12) (hret : mRi p l e ({ frames := 0, cells := 0, slots := 0, locals := 0 } : Room) s m args below meth c Q cX12_stands D cy ci h A0 .boolean o) {t0 : Int32} {I : Nat → Int32} {A : Nat → Nat → Int32} {H : Heap} {locs : List Loc} {ls : Array Slot} (hf : f_stands_19 t0 I A = some o) (hM : mH D cy ci h A0 s H locs I A) (hl : lv_has ls 3 []) : W p l e ({ frames := 0, cells := 0, slots := 0, locals := 0 } : Room) s m args below meth c H locs 0 0 Q (F0 m 19 ls [.int t0]) := by
  obtain ⟨hx, hb, hml, hown, hts⟩ := id X
  unfold f_stands_19 at hf
  obtain ⟨cd, hf⟩ := m_chkE hf
  cases hf
  exact hret H locs _ ls hM (m_nb cd) dX12_stands_19
noncomputable def f_stands_18 (I : Nat → Int32) (A : Nat → Nat → Int32) : Option (Int32 × MS) :=
  f_stands_19 (0 : Int32) I A

set_option maxRecDepth 100000 in
set_option maxHeartbeats 4000000 in
theorem w_stands_18 {p : Program} {l : Launch} {e : Env} {s : State} {m : MethodId} {args : Array Value} {below : List Frame} {meth : Method} {c : Code} {Q : State → Prop} {D : va_G} {cy ci : ClassId} {h : Nat → Nat} {A0 : Nat → Prop} {o : Int32 × MS} (X : CallFix p m c cX12_stands 3 s args wsX12_stands RX12) (hret : mRi p l e ({ frames := 0, cells := 0, slots := 0, locals := 0 } : Room) s m args below meth c Q cX12_stands D cy ci h A0 .boolean o) {I : Nat → Int32} {A : Nat → Nat → Int32} {H : Heap} {locs : List Loc} {ls : Array Slot} (hf : f_stands_18  I A = some o) (hM : mH D cy ci h A0 s H locs I A) (hl : lv_has ls 3 []) : W p l e ({ frames := 0, cells := 0, slots := 0, locals := 0 } : Room) s m args below meth c H locs 0 0 Q (F0 m 18 ls []) := by
  obtain ⟨hx, hb, hml, hown, hts⟩ := id X
  unfold f_stands_18 at hf
  refine lv_iconst (v := (0 : Int32)) hx hb dX12_stands_18 (by decide) ?_
  exact w_stands_19 X hret hf hM (lv_sub hl [] rfl)
noncomputable def f_stands_0 (x1 : Int32) (x2 : Int32) (I : Nat → Int32) (A : Nat → Nat → Int32) : Option (Int32 × MS) :=
  m_if (x1 < 0) (
  f_stands_18  I A
  ) (
  m_chk (¬ (x1 < 0 ∨ 64 ≤ (x1).toNatClampNeg)) (
  m_bnd (A 24 (x1).toNatClampNeg) (fun v1 =>
  m_if (v1 = x2) (
  f_stands_19 (1 : Int32) I A
  ) (
  f_stands_18  I A
  )))
  )

set_option maxRecDepth 100000 in
set_option maxHeartbeats 4000000 in
theorem w_stands_0 {p : Program} {l : Launch} {e : Env} {s : State} {m : MethodId} {args : Array Value} {below : List Frame} {meth : Method} {c : Code} {Q : State → Prop} {D : va_G} {cy ci : ClassId} {h : Nat → Nat} {A0 : Nat → Prop} {o : Int32 × MS} (X : CallFix p m c cX12_stands 3 s args wsX12_stands RX12) (hret : mRi p l e ({ frames := 0, cells := 0, slots := 0, locals := 0 } : Room) s m args below meth c Q cX12_stands D cy ci h A0 .boolean o) {x1 : Int32} {x2 : Int32} {I : Nat → Int32} {A : Nat → Nat → Int32} {H : Heap} {locs : List Loc} {ls : Array Slot} (hf : f_stands_0 x1 x2 I A = some o) (hM : mH D cy ci h A0 s H locs I A) (hl : lv_has ls 3 [(0, .ref (h 0)), (1, .int x1), (2, .int x2)]) : W p l e ({ frames := 0, cells := 0, slots := 0, locals := 0 } : Room) s m args below meth c H locs 0 0 Q (F0 m 0 ls []) := by
  obtain ⟨hx, hb, hml, hown, hts⟩ := id X
  unfold f_stands_0 at hf
  refine lv_iload_n hx hb dX12_stands_0 rfl (lv_at hl 1 rfl) ?_
  refine lv_if_lt (tgt := 18) hx hb dX12_stands_1 (by decide) (fun cc1 => ?_) (fun cc1 => ?_)
  · replace hf := m_ifT hf cc1
    exact w_stands_18 X hret hf hM (lv_sub hl [] rfl)
  · replace hf := m_ifF hf cc1
    refine lv_aload_n hx hb dX12_stands_4 rfl (lv_at hl 0 rfl) ?_
    refine m_get (v := .ref (h 24)) X hw_stands hM 24 (by decide) fl_stands_24 rfl dX12_stands_5 ?_
    refine lv_iload_n hx hb dX12_stands_8 rfl (lv_at hl 1 rfl) ?_
    obtain ⟨cd, hf⟩ := m_chkE hf
    refine m_iald X hM 24 20 64 rfl cd dX12_stands_9 ?_
    clear cd
    obtain ⟨v1, ev, hf⟩ := m_bndE hf
    refine m_top ev ?_
    clear ev
    refine lv_iload_n hx hb dX12_stands_10 rfl (lv_at hl 2 rfl) ?_
    refine lv_icmp_ne (tgt := 18) hx hb dX12_stands_11 (by decide) (fun cc1 => ?_) (fun cc1 => ?_)
    · replace hf := m_ifF hf cc1
      exact w_stands_18 X hret hf hM (lv_sub hl [] rfl)
    · replace hf := m_ifT hf cc1
      refine lv_iconst (v := (1 : Int32)) hx hb dX12_stands_14 (by decide) ?_
      refine lv_goto (tgt := 19) hx hb dX12_stands_15 (by decide) ?_
      exact w_stands_19 X hret hf hM (lv_sub hl [] rfl)
noncomputable def f_stands (x1 : Int32) (x2 : Int32) (I : Nat → Int32) (A : Nat → Nat → Int32) : Option (Int32 × MS) := f_stands_0 x1 x2 I A
theorem c_stands {l : Launch} {D : va_G} {cy ci : ClassId} {h : Nat → Nat} {x1 : Int32} {x2 : Int32} {I : Nat → Int32} {A : Nat → Nat → Int32} {o : Int32 × MS} (hf : f_stands x1 x2 I A = some o) : mMi l yX12_stands wsX12_stands ({ frames := 0, cells := 0, slots := 0, locals := 0 } : Room) [.ref (h 0), .int x1, .int x2] D cy ci h I A o :=
  m_entryI (cc := cX12_stands) (maxL := 3) (by decide) rfl rfl (Nat.le_of_ble_eq_true rfl) (fun p e s m args below meth c A0 Q H locs ls X hret hM hl => w_stands_0 X hret hf hM (lv_sub hl [0, 1, 2] rfl))
theorem hw_make : ∀ w ∈ wsX120, w ∈ wsX12_make := by decide +kernel
theorem fl_make_24 : Cond.fieldLink RX12 70 "MoveTextsModel" "men" "[I" ∈ wsX12_make := by decide +kernel
theorem fl_make_25 : Cond.fieldLink RX12 121 "MoveTextsModel" "side" "I" ∈ wsX12_make := by decide +kernel
theorem fl_make_27 : Cond.fieldLink RX12 127 "MoveTextsModel" "passed" "I" ∈ wsX12_make := by decide +kernel
theorem fl_make_28 : Cond.fieldLink RX12 130 "MoveTextsModel" "clock" "I" ∈ wsX12_make := by decide +kernel
theorem fl_make_29 : Cond.fieldLink RX12 133 "MoveTextsModel" "number" "I" ∈ wsX12_make := by decide +kernel
theorem hd_make : yX12_make.cls = RX12 ∧ yX12_make.cls ≠ "java/lang/invoke/MethodHandle" ∧ yX12_make.cls ≠ "java/lang/invoke/VarHandle" ∧ (parseMethodDescriptor yX12_make.desc).map (fun d => d.parameters.length) = some 1 := by decide +kernel
noncomputable def f_make_319 (I : Nat → Int32) (A : Nat → Nat → Int32) : Option (Int32 × MS) :=
  m_bnd ((I 29) + (I 25)) (fun v1 =>
  m_bnd (upd I 29 v1) (fun I2 =>
  m_bnd ((1 : Int32) - (I2 25)) (fun v3 =>
  m_bnd (upd I2 25 v3) (fun I4 =>
  some (0, (I4, A))))))

set_option maxRecDepth 100000 in
set_option maxHeartbeats 4000000 in
theorem w_make_319 {p : Program} {l : Launch} {e : Env} {s : State} {m : MethodId} {args : Array Value} {below : List Frame} {meth : Method} {c : Code} {Q : State → Prop} {D : va_G} {cy ci : ClassId} {h : Nat → Nat} {A0 : Nat → Prop} {o : Int32 × MS} (X : CallFix p m c cX12_make 8 s args wsX12_make RX12) (hret : mRv p l e ({ frames := 2, cells := 0, slots := 0, locals := 43 } : Room) s m args below meth c Q cX12_make D cy ci h A0 o) {I : Nat → Int32} {A : Nat → Nat → Int32} {H : Heap} {locs : List Loc} {ls : Array Slot} (hf : f_make_319  I A = some o) (hM : mH D cy ci h A0 s H locs I A) (hl : lv_has ls 8 [(0, .ref (h 0))]) : W p l e ({ frames := 2, cells := 0, slots := 0, locals := 43 } : Room) s m args below meth c H locs 0 0 Q (F0 m 319 ls []) := by
  obtain ⟨hx, hb, hml, hown, hts⟩ := id X
  unfold f_make_319 at hf
  refine lv_aload_n hx hb dX12_make_319 rfl (lv_at hl 0 rfl) ?_
  refine lv_aload_n hx hb dX12_make_320 rfl (lv_at hl 0 rfl) ?_
  refine m_get (v := .int (I 29)) X hw_make hM 29 (by decide) fl_make_29 rfl dX12_make_321 ?_
  refine lv_aload_n hx hb dX12_make_324 rfl (lv_at hl 0 rfl) ?_
  refine m_get (v := .int (I 25)) X hw_make hM 25 (by decide) fl_make_25 rfl dX12_make_325 ?_
  refine lv_iadd hx hb dX12_make_328 ?_
  obtain ⟨v1, ev, hf⟩ := m_bndE hf
  refine m_top ev ?_
  clear ev
  refine m_put X hw_make hM 29 (by decide) fl_make_29 mi_29 rfl (tyX12_ok 29 (by decide)) dX12_make_329 (fun H locs hM => ?_)
  obtain ⟨I2, ev, hf⟩ := m_bndE hf
  replace hM := m_hI hM ev
  clear ev
  refine lv_aload_n hx hb dX12_make_332 rfl (lv_at hl 0 rfl) ?_
  refine lv_iconst (v := (1 : Int32)) hx hb dX12_make_333 (by decide) ?_
  refine lv_aload_n hx hb dX12_make_334 rfl (lv_at hl 0 rfl) ?_
  refine m_get (v := .int (I2 25)) X hw_make hM 25 (by decide) fl_make_25 rfl dX12_make_335 ?_
  refine lv_isub hx hb dX12_make_338 ?_
  obtain ⟨v3, ev, hf⟩ := m_bndE hf
  refine m_top ev ?_
  clear ev
  refine m_put X hw_make hM 25 (by decide) fl_make_25 mi_25 rfl (tyX12_ok 25 (by decide)) dX12_make_339 (fun H locs hM => ?_)
  obtain ⟨I4, ev, hf⟩ := m_bndE hf
  replace hM := m_hI hM ev
  clear ev
  cases hf
  exact hret H locs _ ls hM dX12_make_342
noncomputable def f_make_316 (t0 : Int32) (I : Nat → Int32) (A : Nat → Nat → Int32) : Option (Int32 × MS) :=
  m_bnd (upd I 27 t0) (fun I1 =>
  f_make_319  I1 A)

set_option maxRecDepth 100000 in
set_option maxHeartbeats 4000000 in
theorem w_make_316 {p : Program} {l : Launch} {e : Env} {s : State} {m : MethodId} {args : Array Value} {below : List Frame} {meth : Method} {c : Code} {Q : State → Prop} {D : va_G} {cy ci : ClassId} {h : Nat → Nat} {A0 : Nat → Prop} {o : Int32 × MS} (X : CallFix p m c cX12_make 8 s args wsX12_make RX12) (hret : mRv p l e ({ frames := 2, cells := 0, slots := 0, locals := 43 } : Room) s m args below meth c Q cX12_make D cy ci h A0 o) {t0 : Int32} {I : Nat → Int32} {A : Nat → Nat → Int32} {H : Heap} {locs : List Loc} {ls : Array Slot} (hf : f_make_316 t0 I A = some o) (hM : mH D cy ci h A0 s H locs I A) (hl : lv_has ls 8 [(0, .ref (h 0))]) : W p l e ({ frames := 2, cells := 0, slots := 0, locals := 43 } : Room) s m args below meth c H locs 0 0 Q (F0 m 316 ls [.int t0, .ref (h 0)]) := by
  obtain ⟨hx, hb, hml, hown, hts⟩ := id X
  unfold f_make_316 at hf
  refine m_put X hw_make hM 27 (by decide) fl_make_27 mi_27 rfl (tyX12_ok 27 (by decide)) dX12_make_316 (fun H locs hM => ?_)
  obtain ⟨I1, ev, hf⟩ := m_bndE hf
  replace hM := m_hI hM ev
  clear ev
  exact w_make_319 X hret hf hM (lv_sub hl [0] rfl)
noncomputable def f_make_307 (x2 : Int32) (x3 : Int32) (I : Nat → Int32) (A : Nat → Nat → Int32) : Option (Int32 × MS) :=
  m_bnd (x2 + x3) (fun v1 =>
  m_bnd (v1 / (2 : Int32)) (fun v2 =>
  f_make_316 v2 I A))

set_option maxRecDepth 100000 in
set_option maxHeartbeats 4000000 in
theorem w_make_307 {p : Program} {l : Launch} {e : Env} {s : State} {m : MethodId} {args : Array Value} {below : List Frame} {meth : Method} {c : Code} {Q : State → Prop} {D : va_G} {cy ci : ClassId} {h : Nat → Nat} {A0 : Nat → Prop} {o : Int32 × MS} (X : CallFix p m c cX12_make 8 s args wsX12_make RX12) (hret : mRv p l e ({ frames := 2, cells := 0, slots := 0, locals := 43 } : Room) s m args below meth c Q cX12_make D cy ci h A0 o) {x2 : Int32} {x3 : Int32} {I : Nat → Int32} {A : Nat → Nat → Int32} {H : Heap} {locs : List Loc} {ls : Array Slot} (hf : f_make_307 x2 x3 I A = some o) (hM : mH D cy ci h A0 s H locs I A) (hl : lv_has ls 8 [(0, .ref (h 0)), (2, .int x2), (3, .int x3)]) : W p l e ({ frames := 2, cells := 0, slots := 0, locals := 43 } : Room) s m args below meth c H locs 0 0 Q (F0 m 307 ls [.ref (h 0)]) := by
  obtain ⟨hx, hb, hml, hown, hts⟩ := id X
  unfold f_make_307 at hf
  refine lv_iload_n hx hb dX12_make_307 rfl (lv_at hl 1 rfl) ?_
  refine lv_iload_n hx hb dX12_make_308 rfl (lv_at hl 2 rfl) ?_
  refine lv_iadd hx hb dX12_make_309 ?_
  obtain ⟨v1, ev, hf⟩ := m_bndE hf
  refine m_top ev ?_
  clear ev
  refine lv_iconst (v := (2 : Int32)) hx hb dX12_make_310 (by decide) ?_
  refine lv_idiv hx hb dX12_make_311 (by decide) ?_
  obtain ⟨v2, ev, hf⟩ := m_bndE hf
  refine m_top ev ?_
  clear ev
  refine lv_goto (tgt := 316) hx hb dX12_make_312 (by decide) ?_
  exact w_make_316 X hret hf hM (lv_sub hl [0] rfl)
noncomputable def f_make_263 (x2 : Int32) (x3 : Int32) (I : Nat → Int32) (A : Nat → Nat → Int32) : Option (Int32 × MS) :=
  m_bnd ((1 : Int32) - (I 25)) (fun v1 =>
  m_bnd ((8 : Int32) * v1) (fun v2 =>
  m_bnd ((1 : Int32) + v2) (fun v3 =>
  m_cl (f_step x3 (-1 : Int32) (0 : Int32) I A) (fun r4 Ic4 Ac4 =>
  m_cl (f_stands r4 v3 Ic4 Ac4) (fun r5 Ic5 Ac5 =>
  m_if (r5 = 0) (
  m_cl (f_step x3 (1 : Int32) (0 : Int32) Ic5 Ac5) (fun r6 Ic6 Ac6 =>
  m_cl (f_stands r6 v3 Ic6 Ac6) (fun r7 Ic7 Ac7 =>
  m_if (r7 = 0) (
  f_make_316 (-1 : Int32) Ic7 Ac7
  ) (
  f_make_307 x2 x3 Ic7 Ac7
  )))
  ) (
  f_make_307 x2 x3 Ic5 Ac5
  ))))))

set_option maxRecDepth 100000 in
set_option maxHeartbeats 4000000 in
theorem w_make_263 {p : Program} {l : Launch} {e : Env} {s : State} {m : MethodId} {args : Array Value} {below : List Frame} {meth : Method} {c : Code} {Q : State → Prop} {D : va_G} {cy ci : ClassId} {h : Nat → Nat} {A0 : Nat → Prop} {o : Int32 × MS} (X : CallFix p m c cX12_make 8 s args wsX12_make RX12) (hret : mRv p l e ({ frames := 2, cells := 0, slots := 0, locals := 43 } : Room) s m args below meth c Q cX12_make D cy ci h A0 o) {x2 : Int32} {x3 : Int32} {I : Nat → Int32} {A : Nat → Nat → Int32} {H : Heap} {locs : List Loc} {ls : Array Slot} (hf : f_make_263 x2 x3 I A = some o) (hM : mH D cy ci h A0 s H locs I A) (hl : lv_has ls 8 [(0, .ref (h 0)), (2, .int x2), (3, .int x3)]) : W p l e ({ frames := 2, cells := 0, slots := 0, locals := 43 } : Room) s m args below meth c H locs 0 0 Q (F0 m 263 ls []) := by
  obtain ⟨hx, hb, hml, hown, hts⟩ := id X
  unfold f_make_263 at hf
  refine lv_iconst (v := (1 : Int32)) hx hb dX12_make_263 (by decide) ?_
  refine lv_bipush (v := (8 : Int32)) hx hb dX12_make_264 (by decide) ?_
  refine lv_iconst (v := (1 : Int32)) hx hb dX12_make_266 (by decide) ?_
  refine lv_aload_n hx hb dX12_make_267 rfl (lv_at hl 0 rfl) ?_
  refine m_get (v := .int (I 25)) X hw_make hM 25 (by decide) fl_make_25 rfl dX12_make_268 ?_
  refine lv_isub hx hb dX12_make_271 ?_
  obtain ⟨v1, ev, hf⟩ := m_bndE hf
  refine m_top ev ?_
  clear ev
  refine lv_imul hx hb dX12_make_272 ?_
  obtain ⟨v2, ev, hf⟩ := m_bndE hf
  refine m_top ev ?_
  clear ev
  refine lv_iadd hx hb dX12_make_273 ?_
  obtain ⟨v3, ev, hf⟩ := m_bndE hf
  refine m_top ev ?_
  clear ev
  refine lv_istore (lv' := [(7, .int v3), (0, .ref (h 0)), (2, .int x2), (3, .int x3)]) hx hb dX12_make_274 hl (by decide) rfl (fun ls hl => ?_)
  refine lv_aload_n hx hb dX12_make_276 rfl (lv_at hl 1 rfl) ?_
  refine lv_aload_n hx hb dX12_make_277 rfl (lv_at hl 1 rfl) ?_
  refine lv_iload_n hx hb dX12_make_278 rfl (lv_at hl 3 rfl) ?_
  refine lv_iconst (v := (-1 : Int32)) hx hb dX12_make_279 (by decide) ?_
  refine lv_iconst (v := (0 : Int32)) hx hb dX12_make_280 (by decide) ?_
  obtain ⟨o4, ho, hf⟩ := m_clE hf
  refine m_callSi X hM (c_step ho) gX12_make_X12_step rfl ⟨rfl, rfl⟩ hd_step ⟨Nat.le_of_ble_eq_true rfl, Nat.le_of_ble_eq_true rfl⟩ rfl hl.1 rfl (Nat.le_of_ble_eq_true rfl) dX12_make_281 (fun H locs hM => ?_)
  clear ho
  refine lv_iload hx hb dX12_make_284 (lv_at hl 0 rfl) ?_
  obtain ⟨o5, ho, hf⟩ := m_clE hf
  refine m_callVi X hM (c_stands ho) gX12_make_X12_stands rfl ⟨rfl, rfl⟩ hd_stands ⟨Nat.le_of_ble_eq_true rfl, Nat.le_of_ble_eq_true rfl⟩ rfl hl.1 rfl (Nat.le_of_ble_eq_true rfl) dX12_make_286 (fun H locs hM => ?_)
  clear ho
  refine lv_if_ne (tgt := 307) hx hb dX12_make_289 (by decide) (fun cc1 => ?_) (fun cc1 => ?_)
  · replace hf := m_ifF hf cc1
    exact w_make_307 X hret hf hM (lv_sub hl [1, 2, 3] rfl)
  · replace hf := m_ifT hf cc1
    refine lv_aload_n hx hb dX12_make_292 rfl (lv_at hl 1 rfl) ?_
    refine lv_iload_n hx hb dX12_make_293 rfl (lv_at hl 3 rfl) ?_
    refine lv_iconst (v := (1 : Int32)) hx hb dX12_make_294 (by decide) ?_
    refine lv_iconst (v := (0 : Int32)) hx hb dX12_make_295 (by decide) ?_
    obtain ⟨o6, ho, hf⟩ := m_clE hf
    refine m_callSi X hM (c_step ho) gX12_make_X12_step rfl ⟨rfl, rfl⟩ hd_step ⟨Nat.le_of_ble_eq_true rfl, Nat.le_of_ble_eq_true rfl⟩ rfl hl.1 rfl (Nat.le_of_ble_eq_true rfl) dX12_make_296 (fun H locs hM => ?_)
    clear ho
    refine lv_iload hx hb dX12_make_299 (lv_at hl 0 rfl) ?_
    obtain ⟨o7, ho, hf⟩ := m_clE hf
    refine m_callVi X hM (c_stands ho) gX12_make_X12_stands rfl ⟨rfl, rfl⟩ hd_stands ⟨Nat.le_of_ble_eq_true rfl, Nat.le_of_ble_eq_true rfl⟩ rfl hl.1 rfl (Nat.le_of_ble_eq_true rfl) dX12_make_301 (fun H locs hM => ?_)
    clear ho
    refine lv_if_eq (tgt := 315) hx hb dX12_make_304 (by decide) (fun cc1 => ?_) (fun cc1 => ?_)
    · replace hf := m_ifT hf cc1
      refine lv_iconst (v := (-1 : Int32)) hx hb dX12_make_315 (by decide) ?_
      exact w_make_316 X hret hf hM (lv_sub hl [1] rfl)
    · replace hf := m_ifF hf cc1
      exact w_make_307 X hret hf hM (lv_sub hl [1, 2, 3] rfl)
noncomputable def f_make_226 (x2 : Int32) (x3 : Int32) (x6 : Int32) (t0 : Int32) (t1 : Int32) (I : Nat → Int32) (A : Nat → Nat → Int32) : Option (Int32 × MS) :=
  m_chk (¬ (t1 < 0 ∨ 64 ≤ (t1).toNatClampNeg)) (
  m_bnd (va_up A 24 (upd (A 24) (t1).toNatClampNeg t0)) (fun A1 =>
  m_cl (f_lose x2 I A1) (fun r2 Ic2 Ac2 =>
  m_cl (f_lose x3 Ic2 Ac2) (fun r3 Ic3 Ac3 =>
  m_bnd (upd Ic3 27 (-1 : Int32)) (fun I4 =>
  m_if (x6 = 0) (
  f_make_319  I4 Ac3
  ) (
  m_bnd (x2 + (16 : Int32)) (fun v5 =>
  m_if (x3 = v5) (
  f_make_263 x2 x3 I4 Ac3
  ) (
  m_bnd (x2 - (16 : Int32)) (fun v6 =>
  m_if (x3 = v6) (
  f_make_263 x2 x3 I4 Ac3
  ) (
  f_make_319  I4 Ac3
  ))
  ))
  ))))))

set_option maxRecDepth 100000 in
set_option maxHeartbeats 4000000 in
theorem w_make_226 {p : Program} {l : Launch} {e : Env} {s : State} {m : MethodId} {args : Array Value} {below : List Frame} {meth : Method} {c : Code} {Q : State → Prop} {D : va_G} {cy ci : ClassId} {h : Nat → Nat} {A0 : Nat → Prop} {o : Int32 × MS} (X : CallFix p m c cX12_make 8 s args wsX12_make RX12) (hret : mRv p l e ({ frames := 2, cells := 0, slots := 0, locals := 43 } : Room) s m args below meth c Q cX12_make D cy ci h A0 o) {x2 : Int32} {x3 : Int32} {x6 : Int32} {t0 : Int32} {t1 : Int32} {I : Nat → Int32} {A : Nat → Nat → Int32} {H : Heap} {locs : List Loc} {ls : Array Slot} (hf : f_make_226 x2 x3 x6 t0 t1 I A = some o) (hM : mH D cy ci h A0 s H locs I A) (hl : lv_has ls 8 [(0, .ref (h 0)), (2, .int x2), (3, .int x3), (6, .int x6)]) : W p l e ({ frames := 2, cells := 0, slots := 0, locals := 43 } : Room) s m args below meth c H locs 0 0 Q (F0 m 226 ls [.int t0, .int t1, .ref (h 24)]) := by
  obtain ⟨hx, hb, hml, hown, hts⟩ := id X
  unfold f_make_226 at hf
  obtain ⟨cd, hf⟩ := m_chkE hf
  refine m_iast X hM 24 20 64 rfl ma_24 cd dX12_make_226 (fun H locs hM => ?_)
  clear cd
  obtain ⟨A1, ev, hf⟩ := m_bndE hf
  replace hM := m_hA hM ev
  clear ev
  refine lv_aload_n hx hb dX12_make_227 rfl (lv_at hl 0 rfl) ?_
  refine lv_iload_n hx hb dX12_make_228 rfl (lv_at hl 1 rfl) ?_
  obtain ⟨o2, ho, hf⟩ := m_clE hf
  refine m_callVv X hM (c_lose ho) gX12_make_X12_lose rfl ⟨rfl, rfl⟩ hd_lose ⟨Nat.le_of_ble_eq_true rfl, Nat.le_of_ble_eq_true rfl⟩ rfl hl.1 rfl (Nat.le_of_ble_eq_true rfl) dX12_make_229 (fun H locs hM => ?_)
  clear ho
  refine lv_aload_n hx hb dX12_make_232 rfl (lv_at hl 0 rfl) ?_
  refine lv_iload_n hx hb dX12_make_233 rfl (lv_at hl 2 rfl) ?_
  obtain ⟨o3, ho, hf⟩ := m_clE hf
  refine m_callVv X hM (c_lose ho) gX12_make_X12_lose rfl ⟨rfl, rfl⟩ hd_lose ⟨Nat.le_of_ble_eq_true rfl, Nat.le_of_ble_eq_true rfl⟩ rfl hl.1 rfl (Nat.le_of_ble_eq_true rfl) dX12_make_234 (fun H locs hM => ?_)
  clear ho
  refine lv_aload_n hx hb dX12_make_237 rfl (lv_at hl 0 rfl) ?_
  refine lv_iconst (v := (-1 : Int32)) hx hb dX12_make_238 (by decide) ?_
  refine m_put X hw_make hM 27 (by decide) fl_make_27 mi_27 rfl (tyX12_ok 27 (by decide)) dX12_make_239 (fun H locs hM => ?_)
  obtain ⟨I4, ev, hf⟩ := m_bndE hf
  replace hM := m_hI hM ev
  clear ev
  refine lv_iload hx hb dX12_make_242 (lv_at hl 3 rfl) ?_
  refine lv_if_eq (tgt := 319) hx hb dX12_make_244 (by decide) (fun cc1 => ?_) (fun cc1 => ?_)
  · replace hf := m_ifT hf cc1
    exact w_make_319 X hret hf hM (lv_sub hl [0] rfl)
  · replace hf := m_ifF hf cc1
    refine lv_iload_n hx hb dX12_make_247 rfl (lv_at hl 2 rfl) ?_
    refine lv_iload_n hx hb dX12_make_248 rfl (lv_at hl 1 rfl) ?_
    refine lv_bipush (v := (16 : Int32)) hx hb dX12_make_249 (by decide) ?_
    refine lv_iadd hx hb dX12_make_251 ?_
    obtain ⟨v5, ev, hf⟩ := m_bndE hf
    refine m_top ev ?_
    clear ev
    refine lv_icmp_eq (tgt := 263) hx hb dX12_make_252 (by decide) (fun cc1 => ?_) (fun cc1 => ?_)
    · replace hf := m_ifT hf cc1
      exact w_make_263 X hret hf hM (lv_sub hl [0, 1, 2] rfl)
    · replace hf := m_ifF hf cc1
      refine lv_iload_n hx hb dX12_make_255 rfl (lv_at hl 2 rfl) ?_
      refine lv_iload_n hx hb dX12_make_256 rfl (lv_at hl 1 rfl) ?_
      refine lv_bipush (v := (16 : Int32)) hx hb dX12_make_257 (by decide) ?_
      refine lv_isub hx hb dX12_make_259 ?_
      obtain ⟨v6, ev, hf⟩ := m_bndE hf
      refine m_top ev ?_
      clear ev
      refine lv_icmp_ne (tgt := 319) hx hb dX12_make_260 (by decide) (fun cc1 => ?_) (fun cc1 => ?_)
      · replace hf := m_ifF hf cc1
        exact w_make_319 X hret hf hM (lv_sub hl [0] rfl)
      · replace hf := m_ifT hf cc1
        exact w_make_263 X hret hf hM (lv_sub hl [0, 1, 2] rfl)
noncomputable def f_make_194 (x2 : Int32) (x3 : Int32) (x4 : Int32) (x5 : Int32) (x6 : Int32) (I : Nat → Int32) (A : Nat → Nat → Int32) : Option (Int32 × MS) :=
  m_chk (¬ (x2 < 0 ∨ 64 ≤ (x2).toNatClampNeg)) (
  m_bnd (va_up A 24 (upd (A 24) (x2).toNatClampNeg (0 : Int32))) (fun A1 =>
  m_if (x4 ≤ 0) (
  f_make_226 x2 x3 x6 x5 x3 I A1
  ) (
  m_bnd ((8 : Int32) * (I 25)) (fun v2 =>
  m_bnd (x4 + v2) (fun v3 =>
  f_make_226 x2 x3 x6 v3 x3 I A1))
  )))

set_option maxRecDepth 100000 in
set_option maxHeartbeats 4000000 in
theorem w_make_194 {p : Program} {l : Launch} {e : Env} {s : State} {m : MethodId} {args : Array Value} {below : List Frame} {meth : Method} {c : Code} {Q : State → Prop} {D : va_G} {cy ci : ClassId} {h : Nat → Nat} {A0 : Nat → Prop} {o : Int32 × MS} (X : CallFix p m c cX12_make 8 s args wsX12_make RX12) (hret : mRv p l e ({ frames := 2, cells := 0, slots := 0, locals := 43 } : Room) s m args below meth c Q cX12_make D cy ci h A0 o) {x2 : Int32} {x3 : Int32} {x4 : Int32} {x5 : Int32} {x6 : Int32} {I : Nat → Int32} {A : Nat → Nat → Int32} {H : Heap} {locs : List Loc} {ls : Array Slot} (hf : f_make_194 x2 x3 x4 x5 x6 I A = some o) (hM : mH D cy ci h A0 s H locs I A) (hl : lv_has ls 8 [(0, .ref (h 0)), (2, .int x2), (3, .int x3), (4, .int x4), (5, .int x5), (6, .int x6)]) : W p l e ({ frames := 2, cells := 0, slots := 0, locals := 43 } : Room) s m args below meth c H locs 0 0 Q (F0 m 194 ls []) := by
  obtain ⟨hx, hb, hml, hown, hts⟩ := id X
  unfold f_make_194 at hf
  refine lv_aload_n hx hb dX12_make_194 rfl (lv_at hl 0 rfl) ?_
  refine m_get (v := .ref (h 24)) X hw_make hM 24 (by decide) fl_make_24 rfl dX12_make_195 ?_
  refine lv_iload_n hx hb dX12_make_198 rfl (lv_at hl 1 rfl) ?_
  refine lv_iconst (v := (0 : Int32)) hx hb dX12_make_199 (by decide) ?_
  obtain ⟨cd, hf⟩ := m_chkE hf
  refine m_iast X hM 24 20 64 rfl ma_24 cd dX12_make_200 (fun H locs hM => ?_)
  clear cd
  obtain ⟨A1, ev, hf⟩ := m_bndE hf
  replace hM := m_hA hM ev
  clear ev
  refine lv_aload_n hx hb dX12_make_201 rfl (lv_at hl 0 rfl) ?_
  refine m_get (v := .ref (h 24)) X hw_make hM 24 (by decide) fl_make_24 rfl dX12_make_202 ?_
  refine lv_iload_n hx hb dX12_make_205 rfl (lv_at hl 2 rfl) ?_
  refine lv_iload hx hb dX12_make_206 (lv_at hl 3 rfl) ?_
  refine lv_if_le (tgt := 224) hx hb dX12_make_208 (by decide) (fun cc1 => ?_) (fun cc1 => ?_)
  · replace hf := m_ifT hf cc1
    refine lv_iload hx hb dX12_make_224 (lv_at hl 4 rfl) ?_
    exact w_make_226 X hret hf hM (lv_sub hl [0, 1, 2, 5] rfl)
  · replace hf := m_ifF hf cc1
    refine lv_iload hx hb dX12_make_211 (lv_at hl 3 rfl) ?_
    refine lv_bipush (v := (8 : Int32)) hx hb dX12_make_213 (by decide) ?_
    refine lv_aload_n hx hb dX12_make_215 rfl (lv_at hl 0 rfl) ?_
    refine m_get (v := .int (I 25)) X hw_make hM 25 (by decide) fl_make_25 rfl dX12_make_216 ?_
    refine lv_imul hx hb dX12_make_219 ?_
    obtain ⟨v2, ev, hf⟩ := m_bndE hf
    refine m_top ev ?_
    clear ev
    refine lv_iadd hx hb dX12_make_220 ?_
    obtain ⟨v3, ev, hf⟩ := m_bndE hf
    refine m_top ev ?_
    clear ev
    refine lv_goto (tgt := 226) hx hb dX12_make_221 (by decide) ?_
    exact w_make_226 X hret hf hM (lv_sub hl [0, 1, 2, 5] rfl)
noncomputable def f_make_167 (x2 : Int32) (x3 : Int32) (x4 : Int32) (x5 : Int32) (x6 : Int32) (t0 : Int32) (I : Nat → Int32) (A : Nat → Nat → Int32) : Option (Int32 × MS) :=
  m_bnd (x2 + x3) (fun v1 =>
  m_bnd (v1 / (2 : Int32)) (fun v2 =>
  m_chk (¬ (t0 < 0 ∨ 64 ≤ (t0).toNatClampNeg)) (
  m_bnd (A 24 (t0).toNatClampNeg) (fun v3 =>
  m_chk (¬ (v2 < 0 ∨ 64 ≤ (v2).toNatClampNeg)) (
  m_bnd (va_up A 24 (upd (A 24) (v2).toNatClampNeg v3)) (fun A4 =>
  m_chk (¬ (t0 < 0 ∨ 64 ≤ (t0).toNatClampNeg)) (
  m_bnd (va_up A4 24 (upd (A4 24) (t0).toNatClampNeg (0 : Int32))) (fun A5 =>
  f_make_194 x2 x3 x4 x5 x6 I A5))))))))

set_option maxRecDepth 100000 in
set_option maxHeartbeats 4000000 in
theorem w_make_167 {p : Program} {l : Launch} {e : Env} {s : State} {m : MethodId} {args : Array Value} {below : List Frame} {meth : Method} {c : Code} {Q : State → Prop} {D : va_G} {cy ci : ClassId} {h : Nat → Nat} {A0 : Nat → Prop} {o : Int32 × MS} (X : CallFix p m c cX12_make 8 s args wsX12_make RX12) (hret : mRv p l e ({ frames := 2, cells := 0, slots := 0, locals := 43 } : Room) s m args below meth c Q cX12_make D cy ci h A0 o) {x2 : Int32} {x3 : Int32} {x4 : Int32} {x5 : Int32} {x6 : Int32} {t0 : Int32} {I : Nat → Int32} {A : Nat → Nat → Int32} {H : Heap} {locs : List Loc} {ls : Array Slot} (hf : f_make_167 x2 x3 x4 x5 x6 t0 I A = some o) (hM : mH D cy ci h A0 s H locs I A) (hl : lv_has ls 8 [(0, .ref (h 0)), (2, .int x2), (3, .int x3), (4, .int x4), (5, .int x5), (6, .int x6)]) : W p l e ({ frames := 2, cells := 0, slots := 0, locals := 43 } : Room) s m args below meth c H locs 0 0 Q (F0 m 167 ls [.int t0]) := by
  obtain ⟨hx, hb, hml, hown, hts⟩ := id X
  unfold f_make_167 at hf
  refine lv_istore (lv' := [(7, .int t0), (0, .ref (h 0)), (2, .int x2), (3, .int x3), (4, .int x4), (5, .int x5), (6, .int x6)]) hx hb dX12_make_167 hl (by decide) rfl (fun ls hl => ?_)
  refine lv_aload_n hx hb dX12_make_169 rfl (lv_at hl 1 rfl) ?_
  refine m_get (v := .ref (h 24)) X hw_make hM 24 (by decide) fl_make_24 rfl dX12_make_170 ?_
  refine lv_iload_n hx hb dX12_make_173 rfl (lv_at hl 2 rfl) ?_
  refine lv_iload_n hx hb dX12_make_174 rfl (lv_at hl 3 rfl) ?_
  refine lv_iadd hx hb dX12_make_175 ?_
  obtain ⟨v1, ev, hf⟩ := m_bndE hf
  refine m_top ev ?_
  clear ev
  refine lv_iconst (v := (2 : Int32)) hx hb dX12_make_176 (by decide) ?_
  refine lv_idiv hx hb dX12_make_177 (by decide) ?_
  obtain ⟨v2, ev, hf⟩ := m_bndE hf
  refine m_top ev ?_
  clear ev
  refine lv_aload_n hx hb dX12_make_178 rfl (lv_at hl 1 rfl) ?_
  refine m_get (v := .ref (h 24)) X hw_make hM 24 (by decide) fl_make_24 rfl dX12_make_179 ?_
  refine lv_iload hx hb dX12_make_182 (lv_at hl 0 rfl) ?_
  obtain ⟨cd, hf⟩ := m_chkE hf
  refine m_iald X hM 24 20 64 rfl cd dX12_make_184 ?_
  clear cd
  obtain ⟨v3, ev, hf⟩ := m_bndE hf
  refine m_top ev ?_
  clear ev
  obtain ⟨cd, hf⟩ := m_chkE hf
  refine m_iast X hM 24 20 64 rfl ma_24 cd dX12_make_185 (fun H locs hM => ?_)
  clear cd
  obtain ⟨A4, ev, hf⟩ := m_bndE hf
  replace hM := m_hA hM ev
  clear ev
  refine lv_aload_n hx hb dX12_make_186 rfl (lv_at hl 1 rfl) ?_
  refine m_get (v := .ref (h 24)) X hw_make hM 24 (by decide) fl_make_24 rfl dX12_make_187 ?_
  refine lv_iload hx hb dX12_make_190 (lv_at hl 0 rfl) ?_
  refine lv_iconst (v := (0 : Int32)) hx hb dX12_make_192 (by decide) ?_
  obtain ⟨cd, hf⟩ := m_chkE hf
  refine m_iast X hM 24 20 64 rfl ma_24 cd dX12_make_193 (fun H locs hM => ?_)
  clear cd
  obtain ⟨A5, ev, hf⟩ := m_bndE hf
  replace hM := m_hA hM ev
  clear ev
  exact w_make_194 X hret hf hM (lv_sub hl [1, 2, 3, 4, 5, 6] rfl)
noncomputable def f_make_149 (x2 : Int32) (x3 : Int32) (x4 : Int32) (x5 : Int32) (x6 : Int32) (I : Nat → Int32) (A : Nat → Nat → Int32) : Option (Int32 × MS) :=
  m_bnd (x3 - x3 / (8 : Int32) * (8 : Int32)) (fun v1 =>
  m_if (v1 = (6 : Int32)) (
  m_bnd (x2 + (3 : Int32)) (fun v3 =>
  f_make_167 x2 x3 x4 x5 x6 v3 I A)
  ) (
  m_bnd (x2 - (4 : Int32)) (fun v2 =>
  f_make_167 x2 x3 x4 x5 x6 v2 I A)
  ))

set_option maxRecDepth 100000 in
set_option maxHeartbeats 4000000 in
theorem w_make_149 {p : Program} {l : Launch} {e : Env} {s : State} {m : MethodId} {args : Array Value} {below : List Frame} {meth : Method} {c : Code} {Q : State → Prop} {D : va_G} {cy ci : ClassId} {h : Nat → Nat} {A0 : Nat → Prop} {o : Int32 × MS} (X : CallFix p m c cX12_make 8 s args wsX12_make RX12) (hret : mRv p l e ({ frames := 2, cells := 0, slots := 0, locals := 43 } : Room) s m args below meth c Q cX12_make D cy ci h A0 o) {x2 : Int32} {x3 : Int32} {x4 : Int32} {x5 : Int32} {x6 : Int32} {I : Nat → Int32} {A : Nat → Nat → Int32} {H : Heap} {locs : List Loc} {ls : Array Slot} (hf : f_make_149 x2 x3 x4 x5 x6 I A = some o) (hM : mH D cy ci h A0 s H locs I A) (hl : lv_has ls 8 [(0, .ref (h 0)), (2, .int x2), (3, .int x3), (4, .int x4), (5, .int x5), (6, .int x6)]) : W p l e ({ frames := 2, cells := 0, slots := 0, locals := 43 } : Room) s m args below meth c H locs 0 0 Q (F0 m 149 ls []) := by
  obtain ⟨hx, hb, hml, hown, hts⟩ := id X
  unfold f_make_149 at hf
  refine lv_iload_n hx hb dX12_make_149 rfl (lv_at hl 2 rfl) ?_
  refine lv_bipush (v := (8 : Int32)) hx hb dX12_make_150 (by decide) ?_
  refine lv_irem hx hb dX12_make_152 (by decide) ?_
  obtain ⟨v1, ev, hf⟩ := m_bndE hf
  refine m_top ev ?_
  clear ev
  refine lv_bipush (v := (6 : Int32)) hx hb dX12_make_153 (by decide) ?_
  refine lv_icmp_ne (tgt := 164) hx hb dX12_make_155 (by decide) (fun cc1 => ?_) (fun cc1 => ?_)
  · replace hf := m_ifF hf cc1
    refine lv_iload_n hx hb dX12_make_164 rfl (lv_at hl 1 rfl) ?_
    refine lv_iconst (v := (4 : Int32)) hx hb dX12_make_165 (by decide) ?_
    refine lv_isub hx hb dX12_make_166 ?_
    obtain ⟨v2, ev, hf⟩ := m_bndE hf
    refine m_top ev ?_
    clear ev
    exact w_make_167 X hret hf hM (lv_sub hl [0, 1, 2, 3, 4, 5] rfl)
  · replace hf := m_ifT hf cc1
    refine lv_iload_n hx hb dX12_make_158 rfl (lv_at hl 1 rfl) ?_
    refine lv_iconst (v := (3 : Int32)) hx hb dX12_make_159 (by decide) ?_
    refine lv_iadd hx hb dX12_make_160 ?_
    obtain ⟨v3, ev, hf⟩ := m_bndE hf
    refine m_top ev ?_
    clear ev
    refine lv_goto (tgt := 167) hx hb dX12_make_161 (by decide) ?_
    exact w_make_167 X hret hf hM (lv_sub hl [0, 1, 2, 3, 4, 5] rfl)
noncomputable def f_make_114 (x2 : Int32) (x3 : Int32) (x4 : Int32) (x5 : Int32) (x6 : Int32) (I : Nat → Int32) (A : Nat → Nat → Int32) : Option (Int32 × MS) :=
  m_cl (f_kind x5 I A) (fun r1 Ic1 Ac1 =>
  m_if (r1 = (6 : Int32)) (
  m_bnd (x2 - x2 / (8 : Int32) * (8 : Int32)) (fun v2 =>
  m_if (v2 = (4 : Int32)) (
  m_bnd (x3 - x3 / (8 : Int32) * (8 : Int32)) (fun v3 =>
  m_if (v3 = (6 : Int32)) (
  f_make_149 x2 x3 x4 x5 x6 Ic1 Ac1
  ) (
  m_bnd (x3 - x3 / (8 : Int32) * (8 : Int32)) (fun v4 =>
  m_if (v4 = (2 : Int32)) (
  f_make_149 x2 x3 x4 x5 x6 Ic1 Ac1
  ) (
  f_make_194 x2 x3 x4 x5 x6 Ic1 Ac1
  ))
  ))
  ) (
  f_make_194 x2 x3 x4 x5 x6 Ic1 Ac1
  ))
  ) (
  f_make_194 x2 x3 x4 x5 x6 Ic1 Ac1
  ))

set_option maxRecDepth 100000 in
set_option maxHeartbeats 4000000 in
theorem w_make_114 {p : Program} {l : Launch} {e : Env} {s : State} {m : MethodId} {args : Array Value} {below : List Frame} {meth : Method} {c : Code} {Q : State → Prop} {D : va_G} {cy ci : ClassId} {h : Nat → Nat} {A0 : Nat → Prop} {o : Int32 × MS} (X : CallFix p m c cX12_make 8 s args wsX12_make RX12) (hret : mRv p l e ({ frames := 2, cells := 0, slots := 0, locals := 43 } : Room) s m args below meth c Q cX12_make D cy ci h A0 o) {x2 : Int32} {x3 : Int32} {x4 : Int32} {x5 : Int32} {x6 : Int32} {I : Nat → Int32} {A : Nat → Nat → Int32} {H : Heap} {locs : List Loc} {ls : Array Slot} (hf : f_make_114 x2 x3 x4 x5 x6 I A = some o) (hM : mH D cy ci h A0 s H locs I A) (hl : lv_has ls 8 [(0, .ref (h 0)), (2, .int x2), (3, .int x3), (4, .int x4), (5, .int x5), (6, .int x6)]) : W p l e ({ frames := 2, cells := 0, slots := 0, locals := 43 } : Room) s m args below meth c H locs 0 0 Q (F0 m 114 ls []) := by
  obtain ⟨hx, hb, hml, hown, hts⟩ := id X
  unfold f_make_114 at hf
  refine lv_iload hx hb dX12_make_114 (lv_at hl 4 rfl) ?_
  obtain ⟨o1, ho, hf⟩ := m_clE hf
  refine m_callSi X hM (c_kind ho) gX12_make_X12_kind rfl ⟨rfl, rfl⟩ hd_kind ⟨Nat.le_of_ble_eq_true rfl, Nat.le_of_ble_eq_true rfl⟩ rfl hl.1 rfl (Nat.le_of_ble_eq_true rfl) dX12_make_116 (fun H locs hM => ?_)
  clear ho
  refine lv_bipush (v := (6 : Int32)) hx hb dX12_make_119 (by decide) ?_
  refine lv_icmp_ne (tgt := 194) hx hb dX12_make_121 (by decide) (fun cc1 => ?_) (fun cc1 => ?_)
  · replace hf := m_ifF hf cc1
    exact w_make_194 X hret hf hM (lv_sub hl [0, 1, 2, 3, 4, 5] rfl)
  · replace hf := m_ifT hf cc1
    refine lv_iload_n hx hb dX12_make_124 rfl (lv_at hl 1 rfl) ?_
    refine lv_bipush (v := (8 : Int32)) hx hb dX12_make_125 (by decide) ?_
    refine lv_irem hx hb dX12_make_127 (by decide) ?_
    obtain ⟨v2, ev, hf⟩ := m_bndE hf
    refine m_top ev ?_
    clear ev
    refine lv_iconst (v := (4 : Int32)) hx hb dX12_make_128 (by decide) ?_
    refine lv_icmp_ne (tgt := 194) hx hb dX12_make_129 (by decide) (fun cc1 => ?_) (fun cc1 => ?_)
    · replace hf := m_ifF hf cc1
      exact w_make_194 X hret hf hM (lv_sub hl [0, 1, 2, 3, 4, 5] rfl)
    · replace hf := m_ifT hf cc1
      refine lv_iload_n hx hb dX12_make_132 rfl (lv_at hl 2 rfl) ?_
      refine lv_bipush (v := (8 : Int32)) hx hb dX12_make_133 (by decide) ?_
      refine lv_irem hx hb dX12_make_135 (by decide) ?_
      obtain ⟨v3, ev, hf⟩ := m_bndE hf
      refine m_top ev ?_
      clear ev
      refine lv_bipush (v := (6 : Int32)) hx hb dX12_make_136 (by decide) ?_
      refine lv_icmp_eq (tgt := 149) hx hb dX12_make_138 (by decide) (fun cc1 => ?_) (fun cc1 => ?_)
      · replace hf := m_ifT hf cc1
        exact w_make_149 X hret hf hM (lv_sub hl [0, 1, 2, 3, 4, 5] rfl)
      · replace hf := m_ifF hf cc1
        refine lv_iload_n hx hb dX12_make_141 rfl (lv_at hl 2 rfl) ?_
        refine lv_bipush (v := (8 : Int32)) hx hb dX12_make_142 (by decide) ?_
        refine lv_irem hx hb dX12_make_144 (by decide) ?_
        obtain ⟨v4, ev, hf⟩ := m_bndE hf
        refine m_top ev ?_
        clear ev
        refine lv_iconst (v := (2 : Int32)) hx hb dX12_make_145 (by decide) ?_
        refine lv_icmp_ne (tgt := 194) hx hb dX12_make_146 (by decide) (fun cc1 => ?_) (fun cc1 => ?_)
        · replace hf := m_ifF hf cc1
          exact w_make_194 X hret hf hM (lv_sub hl [0, 1, 2, 3, 4, 5] rfl)
        · replace hf := m_ifT hf cc1
          exact w_make_149 X hret hf hM (lv_sub hl [0, 1, 2, 3, 4, 5] rfl)
noncomputable def f_make_68 (x2 : Int32) (x3 : Int32) (x4 : Int32) (x5 : Int32) (x6 : Int32) (t0 : Int32) (I : Nat → Int32) (A : Nat → Nat → Int32) : Option (Int32 × MS) :=
  m_bnd (upd I 28 t0) (fun I1 =>
  m_if (x6 = 0) (
  f_make_114 x2 x3 x4 x5 x6 I1 A
  ) (
  m_chk (¬ (x3 < 0 ∨ 64 ≤ (x3).toNatClampNeg)) (
  m_bnd (A 24 (x3).toNatClampNeg) (fun v2 =>
  m_if (v2 = 0) (
  m_bnd (x2 - x2 / (8 : Int32) * (8 : Int32)) (fun v3 =>
  m_bnd (x3 - x3 / (8 : Int32) * (8 : Int32)) (fun v4 =>
  m_if (v3 = v4) (
  f_make_114 x2 x3 x4 x5 x6 I1 A
  ) (
  m_bnd (x2 / (8 : Int32)) (fun v5 =>
  m_bnd (v5 * (8 : Int32)) (fun v6 =>
  m_bnd (x3 - x3 / (8 : Int32) * (8 : Int32)) (fun v7 =>
  m_bnd (v6 + v7) (fun v8 =>
  m_chk (¬ (v8 < 0 ∨ 64 ≤ (v8).toNatClampNeg)) (
  m_bnd (va_up A 24 (upd (A 24) (v8).toNatClampNeg (0 : Int32))) (fun A9 =>
  f_make_114 x2 x3 x4 x5 x6 I1 A9))))))
  )))
  ) (
  f_make_114 x2 x3 x4 x5 x6 I1 A
  )))
  ))

set_option maxRecDepth 100000 in
set_option maxHeartbeats 4000000 in
theorem w_make_68 {p : Program} {l : Launch} {e : Env} {s : State} {m : MethodId} {args : Array Value} {below : List Frame} {meth : Method} {c : Code} {Q : State → Prop} {D : va_G} {cy ci : ClassId} {h : Nat → Nat} {A0 : Nat → Prop} {o : Int32 × MS} (X : CallFix p m c cX12_make 8 s args wsX12_make RX12) (hret : mRv p l e ({ frames := 2, cells := 0, slots := 0, locals := 43 } : Room) s m args below meth c Q cX12_make D cy ci h A0 o) {x2 : Int32} {x3 : Int32} {x4 : Int32} {x5 : Int32} {x6 : Int32} {t0 : Int32} {I : Nat → Int32} {A : Nat → Nat → Int32} {H : Heap} {locs : List Loc} {ls : Array Slot} (hf : f_make_68 x2 x3 x4 x5 x6 t0 I A = some o) (hM : mH D cy ci h A0 s H locs I A) (hl : lv_has ls 8 [(0, .ref (h 0)), (2, .int x2), (3, .int x3), (4, .int x4), (5, .int x5), (6, .int x6)]) : W p l e ({ frames := 2, cells := 0, slots := 0, locals := 43 } : Room) s m args below meth c H locs 0 0 Q (F0 m 68 ls [.int t0, .ref (h 0)]) := by
  obtain ⟨hx, hb, hml, hown, hts⟩ := id X
  unfold f_make_68 at hf
  refine m_put X hw_make hM 28 (by decide) fl_make_28 mi_28 rfl (tyX12_ok 28 (by decide)) dX12_make_68 (fun H locs hM => ?_)
  obtain ⟨I1, ev, hf⟩ := m_bndE hf
  replace hM := m_hI hM ev
  clear ev
  refine lv_iload hx hb dX12_make_71 (lv_at hl 5 rfl) ?_
  refine lv_if_eq (tgt := 114) hx hb dX12_make_73 (by decide) (fun cc1 => ?_) (fun cc1 => ?_)
  · replace hf := m_ifT hf cc1
    exact w_make_114 X hret hf hM (lv_sub hl [0, 1, 2, 3, 4, 5] rfl)
  · replace hf := m_ifF hf cc1
    refine lv_aload_n hx hb dX12_make_76 rfl (lv_at hl 0 rfl) ?_
    refine m_get (v := .ref (h 24)) X hw_make hM 24 (by decide) fl_make_24 rfl dX12_make_77 ?_
    refine lv_iload_n hx hb dX12_make_80 rfl (lv_at hl 2 rfl) ?_
    obtain ⟨cd, hf⟩ := m_chkE hf
    refine m_iald X hM 24 20 64 rfl cd dX12_make_81 ?_
    clear cd
    obtain ⟨v2, ev, hf⟩ := m_bndE hf
    refine m_top ev ?_
    clear ev
    refine lv_if_ne (tgt := 114) hx hb dX12_make_82 (by decide) (fun cc1 => ?_) (fun cc1 => ?_)
    · replace hf := m_ifF hf cc1
      exact w_make_114 X hret hf hM (lv_sub hl [0, 1, 2, 3, 4, 5] rfl)
    · replace hf := m_ifT hf cc1
      refine lv_iload_n hx hb dX12_make_85 rfl (lv_at hl 1 rfl) ?_
      refine lv_bipush (v := (8 : Int32)) hx hb dX12_make_86 (by decide) ?_
      refine lv_irem hx hb dX12_make_88 (by decide) ?_
      obtain ⟨v3, ev, hf⟩ := m_bndE hf
      refine m_top ev ?_
      clear ev
      refine lv_iload_n hx hb dX12_make_89 rfl (lv_at hl 2 rfl) ?_
      refine lv_bipush (v := (8 : Int32)) hx hb dX12_make_90 (by decide) ?_
      refine lv_irem hx hb dX12_make_92 (by decide) ?_
      obtain ⟨v4, ev, hf⟩ := m_bndE hf
      refine m_top ev ?_
      clear ev
      refine lv_icmp_eq (tgt := 114) hx hb dX12_make_93 (by decide) (fun cc1 => ?_) (fun cc1 => ?_)
      · replace hf := m_ifT hf cc1
        exact w_make_114 X hret hf hM (lv_sub hl [0, 1, 2, 3, 4, 5] rfl)
      · replace hf := m_ifF hf cc1
        refine lv_aload_n hx hb dX12_make_96 rfl (lv_at hl 0 rfl) ?_
        refine m_get (v := .ref (h 24)) X hw_make hM 24 (by decide) fl_make_24 rfl dX12_make_97 ?_
        refine lv_iload_n hx hb dX12_make_100 rfl (lv_at hl 1 rfl) ?_
        refine lv_bipush (v := (8 : Int32)) hx hb dX12_make_101 (by decide) ?_
        refine lv_idiv hx hb dX12_make_103 (by decide) ?_
        obtain ⟨v5, ev, hf⟩ := m_bndE hf
        refine m_top ev ?_
        clear ev
        refine lv_bipush (v := (8 : Int32)) hx hb dX12_make_104 (by decide) ?_
        refine lv_imul hx hb dX12_make_106 ?_
        obtain ⟨v6, ev, hf⟩ := m_bndE hf
        refine m_top ev ?_
        clear ev
        refine lv_iload_n hx hb dX12_make_107 rfl (lv_at hl 2 rfl) ?_
        refine lv_bipush (v := (8 : Int32)) hx hb dX12_make_108 (by decide) ?_
        refine lv_irem hx hb dX12_make_110 (by decide) ?_
        obtain ⟨v7, ev, hf⟩ := m_bndE hf
        refine m_top ev ?_
        clear ev
        refine lv_iadd hx hb dX12_make_111 ?_
        obtain ⟨v8, ev, hf⟩ := m_bndE hf
        refine m_top ev ?_
        clear ev
        refine lv_iconst (v := (0 : Int32)) hx hb dX12_make_112 (by decide) ?_
        obtain ⟨cd, hf⟩ := m_chkE hf
        refine m_iast X hM 24 20 64 rfl ma_24 cd dX12_make_113 (fun H locs hM => ?_)
        clear cd
        obtain ⟨A9, ev, hf⟩ := m_bndE hf
        replace hM := m_hA hM ev
        clear ev
        exact w_make_114 X hret hf hM (lv_sub hl [0, 1, 2, 3, 4, 5] rfl)
noncomputable def f_make_58 (x2 : Int32) (x3 : Int32) (x4 : Int32) (x5 : Int32) (x6 : Int32) (I : Nat → Int32) (A : Nat → Nat → Int32) : Option (Int32 × MS) :=
  f_make_68 x2 x3 x4 x5 x6 (0 : Int32) I A

set_option maxRecDepth 100000 in
set_option maxHeartbeats 4000000 in
theorem w_make_58 {p : Program} {l : Launch} {e : Env} {s : State} {m : MethodId} {args : Array Value} {below : List Frame} {meth : Method} {c : Code} {Q : State → Prop} {D : va_G} {cy ci : ClassId} {h : Nat → Nat} {A0 : Nat → Prop} {o : Int32 × MS} (X : CallFix p m c cX12_make 8 s args wsX12_make RX12) (hret : mRv p l e ({ frames := 2, cells := 0, slots := 0, locals := 43 } : Room) s m args below meth c Q cX12_make D cy ci h A0 o) {x2 : Int32} {x3 : Int32} {x4 : Int32} {x5 : Int32} {x6 : Int32} {I : Nat → Int32} {A : Nat → Nat → Int32} {H : Heap} {locs : List Loc} {ls : Array Slot} (hf : f_make_58 x2 x3 x4 x5 x6 I A = some o) (hM : mH D cy ci h A0 s H locs I A) (hl : lv_has ls 8 [(0, .ref (h 0)), (2, .int x2), (3, .int x3), (4, .int x4), (5, .int x5), (6, .int x6)]) : W p l e ({ frames := 2, cells := 0, slots := 0, locals := 43 } : Room) s m args below meth c H locs 0 0 Q (F0 m 58 ls [.ref (h 0)]) := by
  obtain ⟨hx, hb, hml, hown, hts⟩ := id X
  unfold f_make_58 at hf
  refine lv_iconst (v := (0 : Int32)) hx hb dX12_make_58 (by decide) ?_
  refine lv_goto (tgt := 68) hx hb dX12_make_59 (by decide) ?_
  exact w_make_68 X hret hf hM (lv_sub hl [0, 1, 2, 3, 4, 5] rfl)
noncomputable def f_make_42 (x1 : Int32) (x2 : Int32) (x3 : Int32) (x4 : Int32) (x5 : Int32) (t0 : Int32) (I : Nat → Int32) (A : Nat → Nat → Int32) : Option (Int32 × MS) :=
  m_if (t0 = 0) (
  m_cl (f_isTaking x1 I A) (fun r1 Ic1 Ac1 =>
  m_if (r1 = 0) (
  m_bnd ((Ic1 28) + (1 : Int32)) (fun v2 =>
  f_make_68 x2 x3 x4 x5 t0 v2 Ic1 Ac1)
  ) (
  f_make_58 x2 x3 x4 x5 t0 Ic1 Ac1
  ))
  ) (
  f_make_58 x2 x3 x4 x5 t0 I A
  )

set_option maxRecDepth 100000 in
set_option maxHeartbeats 4000000 in
theorem w_make_42 {p : Program} {l : Launch} {e : Env} {s : State} {m : MethodId} {args : Array Value} {below : List Frame} {meth : Method} {c : Code} {Q : State → Prop} {D : va_G} {cy ci : ClassId} {h : Nat → Nat} {A0 : Nat → Prop} {o : Int32 × MS} (X : CallFix p m c cX12_make 8 s args wsX12_make RX12) (hret : mRv p l e ({ frames := 2, cells := 0, slots := 0, locals := 43 } : Room) s m args below meth c Q cX12_make D cy ci h A0 o) {x1 : Int32} {x2 : Int32} {x3 : Int32} {x4 : Int32} {x5 : Int32} {t0 : Int32} {I : Nat → Int32} {A : Nat → Nat → Int32} {H : Heap} {locs : List Loc} {ls : Array Slot} (hf : f_make_42 x1 x2 x3 x4 x5 t0 I A = some o) (hM : mH D cy ci h A0 s H locs I A) (hl : lv_has ls 8 [(0, .ref (h 0)), (1, .int x1), (2, .int x2), (3, .int x3), (4, .int x4), (5, .int x5)]) : W p l e ({ frames := 2, cells := 0, slots := 0, locals := 43 } : Room) s m args below meth c H locs 0 0 Q (F0 m 42 ls [.int t0]) := by
  obtain ⟨hx, hb, hml, hown, hts⟩ := id X
  unfold f_make_42 at hf
  refine lv_istore (lv' := [(6, .int t0), (0, .ref (h 0)), (1, .int x1), (2, .int x2), (3, .int x3), (4, .int x4), (5, .int x5)]) hx hb dX12_make_42 hl (by decide) rfl (fun ls hl => ?_)
  refine lv_aload_n hx hb dX12_make_44 rfl (lv_at hl 1 rfl) ?_
  refine lv_iload hx hb dX12_make_45 (lv_at hl 0 rfl) ?_
  refine lv_if_ne (tgt := 58) hx hb dX12_make_47 (by decide) (fun cc1 => ?_) (fun cc1 => ?_)
  · replace hf := m_ifF hf cc1
    exact w_make_58 X hret hf hM (lv_sub hl [1, 3, 4, 5, 6, 0] rfl)
  · replace hf := m_ifT hf cc1
    refine lv_aload_n hx hb dX12_make_50 rfl (lv_at hl 1 rfl) ?_
    refine lv_iload_n hx hb dX12_make_51 rfl (lv_at hl 2 rfl) ?_
    obtain ⟨o1, ho, hf⟩ := m_clE hf
    refine m_callVi X hM (c_isTaking ho) gX12_make_X12_isTaking rfl ⟨rfl, rfl⟩ hd_isTaking ⟨Nat.le_of_ble_eq_true rfl, Nat.le_of_ble_eq_true rfl⟩ rfl hl.1 rfl (Nat.le_of_ble_eq_true rfl) dX12_make_52 (fun H locs hM => ?_)
    clear ho
    refine lv_if_eq (tgt := 62) hx hb dX12_make_55 (by decide) (fun cc1 => ?_) (fun cc1 => ?_)
    · replace hf := m_ifT hf cc1
      refine lv_aload_n hx hb dX12_make_62 rfl (lv_at hl 1 rfl) ?_
      refine m_get (v := .int (o1.2.1 28)) X hw_make hM 28 (by decide) fl_make_28 rfl dX12_make_63 ?_
      refine lv_iconst (v := (1 : Int32)) hx hb dX12_make_66 (by decide) ?_
      refine lv_iadd hx hb dX12_make_67 ?_
      obtain ⟨v2, ev, hf⟩ := m_bndE hf
      refine m_top ev ?_
      clear ev
      exact w_make_68 X hret hf hM (lv_sub hl [1, 3, 4, 5, 6, 0] rfl)
    · replace hf := m_ifF hf cc1
      exact w_make_58 X hret hf hM (lv_sub hl [1, 3, 4, 5, 6, 0] rfl)
noncomputable def f_make_0 (x1 : Int32) (I : Nat → Int32) (A : Nat → Nat → Int32) : Option (Int32 × MS) :=
  m_bnd (x1 - x1 / (64 : Int32) * (64 : Int32)) (fun v1 =>
  m_bnd (x1 / (64 : Int32)) (fun v2 =>
  m_bnd (v2 - v2 / (64 : Int32) * (64 : Int32)) (fun v3 =>
  m_bnd (x1 / (4096 : Int32)) (fun v4 =>
  m_chk (¬ (v1 < 0 ∨ 64 ≤ (v1).toNatClampNeg)) (
  m_bnd (A 24 (v1).toNatClampNeg) (fun v5 =>
  m_cl (f_kind v5 I A) (fun r6 Ic6 Ac6 =>
  m_if (r6 = (1 : Int32)) (
  f_make_42 x1 v1 v3 v4 v5 (1 : Int32) Ic6 Ac6
  ) (
  f_make_42 x1 v1 v3 v4 v5 (0 : Int32) Ic6 Ac6
  ))))))))

set_option maxRecDepth 100000 in
set_option maxHeartbeats 4000000 in
theorem w_make_0 {p : Program} {l : Launch} {e : Env} {s : State} {m : MethodId} {args : Array Value} {below : List Frame} {meth : Method} {c : Code} {Q : State → Prop} {D : va_G} {cy ci : ClassId} {h : Nat → Nat} {A0 : Nat → Prop} {o : Int32 × MS} (X : CallFix p m c cX12_make 8 s args wsX12_make RX12) (hret : mRv p l e ({ frames := 2, cells := 0, slots := 0, locals := 43 } : Room) s m args below meth c Q cX12_make D cy ci h A0 o) {x1 : Int32} {I : Nat → Int32} {A : Nat → Nat → Int32} {H : Heap} {locs : List Loc} {ls : Array Slot} (hf : f_make_0 x1 I A = some o) (hM : mH D cy ci h A0 s H locs I A) (hl : lv_has ls 8 [(0, .ref (h 0)), (1, .int x1)]) : W p l e ({ frames := 2, cells := 0, slots := 0, locals := 43 } : Room) s m args below meth c H locs 0 0 Q (F0 m 0 ls []) := by
  obtain ⟨hx, hb, hml, hown, hts⟩ := id X
  unfold f_make_0 at hf
  refine lv_iload_n hx hb dX12_make_0 rfl (lv_at hl 1 rfl) ?_
  refine lv_bipush (v := (64 : Int32)) hx hb dX12_make_1 (by decide) ?_
  refine lv_irem hx hb dX12_make_3 (by decide) ?_
  obtain ⟨v1, ev, hf⟩ := m_bndE hf
  refine m_top ev ?_
  clear ev
  refine lv_istore_n (lv' := [(2, .int v1), (0, .ref (h 0)), (1, .int x1)]) hx hb dX12_make_4 rfl hl (by decide) rfl (fun ls hl => ?_)
  refine lv_iload_n hx hb dX12_make_5 rfl (lv_at hl 2 rfl) ?_
  refine lv_bipush (v := (64 : Int32)) hx hb dX12_make_6 (by decide) ?_
  refine lv_idiv hx hb dX12_make_8 (by decide) ?_
  obtain ⟨v2, ev, hf⟩ := m_bndE hf
  refine m_top ev ?_
  clear ev
  refine lv_bipush (v := (64 : Int32)) hx hb dX12_make_9 (by decide) ?_
  refine lv_irem hx hb dX12_make_11 (by decide) ?_
  obtain ⟨v3, ev, hf⟩ := m_bndE hf
  refine m_top ev ?_
  clear ev
  refine lv_istore_n (lv' := [(3, .int v3), (2, .int v1), (0, .ref (h 0)), (1, .int x1)]) hx hb dX12_make_12 rfl hl (by decide) rfl (fun ls hl => ?_)
  refine lv_iload_n hx hb dX12_make_13 rfl (lv_at hl 3 rfl) ?_
  refine lv_sipush (v := (4096 : Int32)) hx hb dX12_make_14 (by decide) ?_
  refine lv_idiv hx hb dX12_make_17 (by decide) ?_
  obtain ⟨v4, ev, hf⟩ := m_bndE hf
  refine m_top ev ?_
  clear ev
  refine lv_istore (lv' := [(4, .int v4), (3, .int v3), (2, .int v1), (0, .ref (h 0)), (1, .int x1)]) hx hb dX12_make_18 hl (by decide) rfl (fun ls hl => ?_)
  refine lv_aload_n hx hb dX12_make_20 rfl (lv_at hl 3 rfl) ?_
  refine m_get (v := .ref (h 24)) X hw_make hM 24 (by decide) fl_make_24 rfl dX12_make_21 ?_
  refine lv_iload_n hx hb dX12_make_24 rfl (lv_at hl 2 rfl) ?_
  obtain ⟨cd, hf⟩ := m_chkE hf
  refine m_iald X hM 24 20 64 rfl cd dX12_make_25 ?_
  clear cd
  obtain ⟨v5, ev, hf⟩ := m_bndE hf
  refine m_top ev ?_
  clear ev
  refine lv_istore (lv' := [(5, .int v5), (4, .int v4), (3, .int v3), (2, .int v1), (0, .ref (h 0)), (1, .int x1)]) hx hb dX12_make_26 hl (by decide) rfl (fun ls hl => ?_)
  refine lv_iload hx hb dX12_make_28 (lv_at hl 0 rfl) ?_
  obtain ⟨o6, ho, hf⟩ := m_clE hf
  refine m_callSi X hM (c_kind ho) gX12_make_X12_kind rfl ⟨rfl, rfl⟩ hd_kind ⟨Nat.le_of_ble_eq_true rfl, Nat.le_of_ble_eq_true rfl⟩ rfl hl.1 rfl (Nat.le_of_ble_eq_true rfl) dX12_make_30 (fun H locs hM => ?_)
  clear ho
  refine lv_iconst (v := (1 : Int32)) hx hb dX12_make_33 (by decide) ?_
  refine lv_icmp_ne (tgt := 41) hx hb dX12_make_34 (by decide) (fun cc1 => ?_) (fun cc1 => ?_)
  · replace hf := m_ifF hf cc1
    refine lv_iconst (v := (0 : Int32)) hx hb dX12_make_41 (by decide) ?_
    exact w_make_42 X hret hf hM (lv_sub hl [4, 5, 3, 2, 1, 0] rfl)
  · replace hf := m_ifT hf cc1
    refine lv_iconst (v := (1 : Int32)) hx hb dX12_make_37 (by decide) ?_
    refine lv_goto (tgt := 42) hx hb dX12_make_38 (by decide) ?_
    exact w_make_42 X hret hf hM (lv_sub hl [4, 5, 3, 2, 1, 0] rfl)
noncomputable def f_make (x1 : Int32) (I : Nat → Int32) (A : Nat → Nat → Int32) : Option (Int32 × MS) := f_make_0 x1 I A
theorem c_make {l : Launch} {D : va_G} {cy ci : ClassId} {h : Nat → Nat} {x1 : Int32} {I : Nat → Int32} {A : Nat → Nat → Int32} {o : Int32 × MS} (hf : f_make x1 I A = some o) : mMv l yX12_make wsX12_make ({ frames := 2, cells := 0, slots := 0, locals := 43 } : Room) [.ref (h 0), .int x1] D cy ci h I A o :=
  m_entryV (cc := cX12_make) (maxL := 8) (by decide) rfl rfl (Nat.le_of_ble_eq_true rfl) (fun p e s m args below meth c A0 Q H locs ls X hret hM hl => w_make_0 X hret hf hM (lv_sub hl [0, 1] rfl))
theorem hd_sideOf : yX12_sideOf.cls ≠ "java/lang/invoke/MethodHandle" ∧ yX12_sideOf.cls ≠ "java/lang/invoke/VarHandle" ∧ (parseMethodDescriptor yX12_sideOf.desc).map (fun d => d.parameters.length) = some 1 := by decide +kernel
noncomputable def f_sideOf_11 (t0 : Int32) (I : Nat → Int32) (A : Nat → Nat → Int32) : Option (Int32 × MS) :=
  some (t0, (I, A))

set_option maxRecDepth 100000 in
set_option maxHeartbeats 4000000 in
theorem w_sideOf_11 {p : Program} {l : Launch} {e : Env} {s : State} {m : MethodId} {args : Array Value} {below : List Frame} {meth : Method} {c : Code} {Q : State → Prop} {D : va_G} {cy ci : ClassId} {h : Nat → Nat} {A0 : Nat → Prop} {o : Int32 × MS} (X : CallFix p m c cX12_sideOf 1 s args wsX12_sideOf RX12) (hret : mRi p l e ({ frames := 0, cells := 0, slots := 0, locals := 0 } : Room) s m args below meth c Q cX12_sideOf D cy ci h A0 .int o) {t0 : Int32} {I : Nat → Int32} {A : Nat → Nat → Int32} {H : Heap} {locs : List Loc} {ls : Array Slot} (hf : f_sideOf_11 t0 I A = some o) (hM : mH D cy ci h A0 s H locs I A) (hl : lv_has ls 1 []) : W p l e ({ frames := 0, cells := 0, slots := 0, locals := 0 } : Room) s m args below meth c H locs 0 0 Q (F0 m 11 ls [.int t0]) := by
  obtain ⟨hx, hb, hml, hown, hts⟩ := id X
  unfold f_sideOf_11 at hf
  cases hf
  exact hret H locs _ ls hM rfl dX12_sideOf_11
noncomputable def f_sideOf_0 (x0 : Int32) (I : Nat → Int32) (A : Nat → Nat → Int32) : Option (Int32 × MS) :=
  m_if (x0 = 0) (
  f_sideOf_11 (-1 : Int32) I A
  ) (
  m_bnd (x0 >>> ((3 : Int32) &&& 31)) (fun v1 =>
  f_sideOf_11 v1 I A)
  )

set_option maxRecDepth 100000 in
set_option maxHeartbeats 4000000 in
theorem w_sideOf_0 {p : Program} {l : Launch} {e : Env} {s : State} {m : MethodId} {args : Array Value} {below : List Frame} {meth : Method} {c : Code} {Q : State → Prop} {D : va_G} {cy ci : ClassId} {h : Nat → Nat} {A0 : Nat → Prop} {o : Int32 × MS} (X : CallFix p m c cX12_sideOf 1 s args wsX12_sideOf RX12) (hret : mRi p l e ({ frames := 0, cells := 0, slots := 0, locals := 0 } : Room) s m args below meth c Q cX12_sideOf D cy ci h A0 .int o) {x0 : Int32} {I : Nat → Int32} {A : Nat → Nat → Int32} {H : Heap} {locs : List Loc} {ls : Array Slot} (hf : f_sideOf_0 x0 I A = some o) (hM : mH D cy ci h A0 s H locs I A) (hl : lv_has ls 1 [(0, .int x0)]) : W p l e ({ frames := 0, cells := 0, slots := 0, locals := 0 } : Room) s m args below meth c H locs 0 0 Q (F0 m 0 ls []) := by
  obtain ⟨hx, hb, hml, hown, hts⟩ := id X
  unfold f_sideOf_0 at hf
  refine lv_iload_n hx hb dX12_sideOf_0 rfl (lv_at hl 0 rfl) ?_
  refine lv_if_ne (tgt := 8) hx hb dX12_sideOf_1 (by decide) (fun cc1 => ?_) (fun cc1 => ?_)
  · replace hf := m_ifF hf cc1
    refine lv_iload_n hx hb dX12_sideOf_8 rfl (lv_at hl 0 rfl) ?_
    refine lv_iconst (v := (3 : Int32)) hx hb dX12_sideOf_9 (by decide) ?_
    refine lv_ishr hx hb dX12_sideOf_10 ?_
    obtain ⟨v1, ev, hf⟩ := m_bndE hf
    refine m_top ev ?_
    clear ev
    exact w_sideOf_11 X hret hf hM (lv_sub hl [] rfl)
  · replace hf := m_ifT hf cc1
    refine lv_iconst (v := (-1 : Int32)) hx hb dX12_sideOf_4 (by decide) ?_
    refine lv_goto (tgt := 11) hx hb dX12_sideOf_5 (by decide) ?_
    exact w_sideOf_11 X hret hf hM (lv_sub hl [] rfl)
noncomputable def f_sideOf (x0 : Int32) (I : Nat → Int32) (A : Nat → Nat → Int32) : Option (Int32 × MS) := f_sideOf_0 x0 I A
theorem c_sideOf {l : Launch} {D : va_G} {cy ci : ClassId} {h : Nat → Nat} {x0 : Int32} {I : Nat → Int32} {A : Nat → Nat → Int32} {o : Int32 × MS} (hf : f_sideOf x0 I A = some o) : mMi l yX12_sideOf wsX12_sideOf ({ frames := 0, cells := 0, slots := 0, locals := 0 } : Room) [.int x0] D cy ci h I A o :=
  m_entryI (cc := cX12_sideOf) (maxL := 1) (by decide) rfl rfl (Nat.le_of_ble_eq_true rfl) (fun p e s m args below meth c A0 Q H locs ls X hret hM hl => w_sideOf_0 X hret hf hM (lv_sub hl [0] rfl))
theorem hw_pawnGoes : ∀ w ∈ wsX120, w ∈ wsX12_pawnGoes := by decide +kernel
theorem fl_pawnGoes_24 : Cond.fieldLink RX12 70 "MoveTextsModel" "men" "[I" ∈ wsX12_pawnGoes := by decide +kernel
theorem fl_pawnGoes_25 : Cond.fieldLink RX12 121 "MoveTextsModel" "side" "I" ∈ wsX12_pawnGoes := by decide +kernel
theorem fl_pawnGoes_27 : Cond.fieldLink RX12 127 "MoveTextsModel" "passed" "I" ∈ wsX12_pawnGoes := by decide +kernel
theorem hd_pawnGoes : yX12_pawnGoes.cls = RX12 ∧ yX12_pawnGoes.cls ≠ "java/lang/invoke/MethodHandle" ∧ yX12_pawnGoes.cls ≠ "java/lang/invoke/VarHandle" ∧ (parseMethodDescriptor yX12_pawnGoes.desc).map (fun d => d.parameters.length) = some 2 := by decide +kernel
noncomputable def f_pawnGoes_162 (t0 : Int32) (I : Nat → Int32) (A : Nat → Nat → Int32) : Option (Int32 × MS) :=
  m_chk (vp_nar .boolean t0 = t0) (some (t0, (I, A)))

set_option maxRecDepth 100000 in
set_option maxHeartbeats 4000000 in
theorem w_pawnGoes_162 {p : Program} {l : Launch} {e : Env} {s : State} {m : MethodId} {args : Array Value} {below : List Frame} {meth : Method} {c : Code} {Q : State → Prop} {D : va_G} {cy ci : ClassId} {h : Nat → Nat} {A0 : Nat → Prop} {o : Int32 × MS} (X : CallFix p m c cX12_pawnGoes 5 s args wsX12_pawnGoes RX12) (hret : mRi p l e ({ frames := 1, cells := 0, slots := 0, locals := 20 } : Room) s m args below meth c Q cX12_pawnGoes D cy ci h A0 .boolean o) {t0 : Int32} {I : Nat → Int32} {A : Nat → Nat → Int32} {H : Heap} {locs : List Loc} {ls : Array Slot} (hf : f_pawnGoes_162 t0 I A = some o) (hM : mH D cy ci h A0 s H locs I A) (hl : lv_has ls 5 []) : W p l e ({ frames := 1, cells := 0, slots := 0, locals := 20 } : Room) s m args below meth c H locs 0 0 Q (F0 m 162 ls [.int t0]) := by
  obtain ⟨hx, hb, hml, hown, hts⟩ := id X
  unfold f_pawnGoes_162 at hf
  obtain ⟨cd, hf⟩ := m_chkE hf
  cases hf
  exact hret H locs _ ls hM (m_nb cd) dX12_pawnGoes_162
noncomputable def f_pawnGoes_161 (I : Nat → Int32) (A : Nat → Nat → Int32) : Option (Int32 × MS) :=
  f_pawnGoes_162 (0 : Int32) I A

set_option maxRecDepth 100000 in
set_option maxHeartbeats 4000000 in
theorem w_pawnGoes_161 {p : Program} {l : Launch} {e : Env} {s : State} {m : MethodId} {args : Array Value} {below : List Frame} {meth : Method} {c : Code} {Q : State → Prop} {D : va_G} {cy ci : ClassId} {h : Nat → Nat} {A0 : Nat → Prop} {o : Int32 × MS} (X : CallFix p m c cX12_pawnGoes 5 s args wsX12_pawnGoes RX12) (hret : mRi p l e ({ frames := 1, cells := 0, slots := 0, locals := 20 } : Room) s m args below meth c Q cX12_pawnGoes D cy ci h A0 .boolean o) {I : Nat → Int32} {A : Nat → Nat → Int32} {H : Heap} {locs : List Loc} {ls : Array Slot} (hf : f_pawnGoes_161  I A = some o) (hM : mH D cy ci h A0 s H locs I A) (hl : lv_has ls 5 []) : W p l e ({ frames := 1, cells := 0, slots := 0, locals := 20 } : Room) s m args below meth c H locs 0 0 Q (F0 m 161 ls []) := by
  obtain ⟨hx, hb, hml, hown, hts⟩ := id X
  unfold f_pawnGoes_161 at hf
  refine lv_iconst (v := (0 : Int32)) hx hb dX12_pawnGoes_161 (by decide) ?_
  exact w_pawnGoes_162 X hret hf hM (lv_sub hl [] rfl)
noncomputable def f_pawnGoes_157 (I : Nat → Int32) (A : Nat → Nat → Int32) : Option (Int32 × MS) :=
  f_pawnGoes_162 (1 : Int32) I A

set_option maxRecDepth 100000 in
set_option maxHeartbeats 4000000 in
theorem w_pawnGoes_157 {p : Program} {l : Launch} {e : Env} {s : State} {m : MethodId} {args : Array Value} {below : List Frame} {meth : Method} {c : Code} {Q : State → Prop} {D : va_G} {cy ci : ClassId} {h : Nat → Nat} {A0 : Nat → Prop} {o : Int32 × MS} (X : CallFix p m c cX12_pawnGoes 5 s args wsX12_pawnGoes RX12) (hret : mRi p l e ({ frames := 1, cells := 0, slots := 0, locals := 20 } : Room) s m args below meth c Q cX12_pawnGoes D cy ci h A0 .boolean o) {I : Nat → Int32} {A : Nat → Nat → Int32} {H : Heap} {locs : List Loc} {ls : Array Slot} (hf : f_pawnGoes_157  I A = some o) (hM : mH D cy ci h A0 s H locs I A) (hl : lv_has ls 5 []) : W p l e ({ frames := 1, cells := 0, slots := 0, locals := 20 } : Room) s m args below meth c H locs 0 0 Q (F0 m 157 ls []) := by
  obtain ⟨hx, hb, hml, hown, hts⟩ := id X
  unfold f_pawnGoes_157 at hf
  refine lv_iconst (v := (1 : Int32)) hx hb dX12_pawnGoes_157 (by decide) ?_
  refine lv_goto (tgt := 162) hx hb dX12_pawnGoes_158 (by decide) ?_
  exact w_pawnGoes_162 X hret hf hM (lv_sub hl [] rfl)
noncomputable def f_pawnGoes_131 (x2 : Int32) (I : Nat → Int32) (A : Nat → Nat → Int32) : Option (Int32 × MS) :=
  m_chk (¬ (x2 < 0 ∨ 64 ≤ (x2).toNatClampNeg)) (
  m_bnd (A 24 (x2).toNatClampNeg) (fun v1 =>
  m_cl (f_sideOf v1 I A) (fun r2 Ic2 Ac2 =>
  m_bnd ((1 : Int32) - (Ic2 25)) (fun v3 =>
  m_if (r2 = v3) (
  f_pawnGoes_157  Ic2 Ac2
  ) (
  m_if (x2 = (Ic2 27)) (
  f_pawnGoes_157  Ic2 Ac2
  ) (
  f_pawnGoes_161  Ic2 Ac2
  )
  )))))

set_option maxRecDepth 100000 in
set_option maxHeartbeats 4000000 in
theorem w_pawnGoes_131 {p : Program} {l : Launch} {e : Env} {s : State} {m : MethodId} {args : Array Value} {below : List Frame} {meth : Method} {c : Code} {Q : State → Prop} {D : va_G} {cy ci : ClassId} {h : Nat → Nat} {A0 : Nat → Prop} {o : Int32 × MS} (X : CallFix p m c cX12_pawnGoes 5 s args wsX12_pawnGoes RX12) (hret : mRi p l e ({ frames := 1, cells := 0, slots := 0, locals := 20 } : Room) s m args below meth c Q cX12_pawnGoes D cy ci h A0 .boolean o) {x2 : Int32} {I : Nat → Int32} {A : Nat → Nat → Int32} {H : Heap} {locs : List Loc} {ls : Array Slot} (hf : f_pawnGoes_131 x2 I A = some o) (hM : mH D cy ci h A0 s H locs I A) (hl : lv_has ls 5 [(0, .ref (h 0)), (2, .int x2)]) : W p l e ({ frames := 1, cells := 0, slots := 0, locals := 20 } : Room) s m args below meth c H locs 0 0 Q (F0 m 131 ls []) := by
  obtain ⟨hx, hb, hml, hown, hts⟩ := id X
  unfold f_pawnGoes_131 at hf
  refine lv_aload_n hx hb dX12_pawnGoes_131 rfl (lv_at hl 0 rfl) ?_
  refine m_get (v := .ref (h 24)) X hw_pawnGoes hM 24 (by decide) fl_pawnGoes_24 rfl dX12_pawnGoes_132 ?_
  refine lv_iload_n hx hb dX12_pawnGoes_135 rfl (lv_at hl 1 rfl) ?_
  obtain ⟨cd, hf⟩ := m_chkE hf
  refine m_iald X hM 24 20 64 rfl cd dX12_pawnGoes_136 ?_
  clear cd
  obtain ⟨v1, ev, hf⟩ := m_bndE hf
  refine m_top ev ?_
  clear ev
  obtain ⟨o2, ho, hf⟩ := m_clE hf
  refine m_callSi X hM (c_sideOf ho) gX12_pawnGoes_X12_sideOf rfl ⟨rfl, rfl⟩ hd_sideOf ⟨Nat.le_of_ble_eq_true rfl, Nat.le_of_ble_eq_true rfl⟩ rfl hl.1 rfl (Nat.le_of_ble_eq_true rfl) dX12_pawnGoes_137 (fun H locs hM => ?_)
  clear ho
  refine lv_iconst (v := (1 : Int32)) hx hb dX12_pawnGoes_140 (by decide) ?_
  refine lv_aload_n hx hb dX12_pawnGoes_141 rfl (lv_at hl 0 rfl) ?_
  refine m_get (v := .int (o2.2.1 25)) X hw_pawnGoes hM 25 (by decide) fl_pawnGoes_25 rfl dX12_pawnGoes_142 ?_
  refine lv_isub hx hb dX12_pawnGoes_145 ?_
  obtain ⟨v3, ev, hf⟩ := m_bndE hf
  refine m_top ev ?_
  clear ev
  refine lv_icmp_eq (tgt := 157) hx hb dX12_pawnGoes_146 (by decide) (fun cc1 => ?_) (fun cc1 => ?_)
  · replace hf := m_ifT hf cc1
    exact w_pawnGoes_157 X hret hf hM (lv_sub hl [] rfl)
  · replace hf := m_ifF hf cc1
    refine lv_iload_n hx hb dX12_pawnGoes_149 rfl (lv_at hl 1 rfl) ?_
    refine lv_aload_n hx hb dX12_pawnGoes_150 rfl (lv_at hl 0 rfl) ?_
    refine m_get (v := .int (o2.2.1 27)) X hw_pawnGoes hM 27 (by decide) fl_pawnGoes_27 rfl dX12_pawnGoes_151 ?_
    refine lv_icmp_ne (tgt := 161) hx hb dX12_pawnGoes_154 (by decide) (fun cc1 => ?_) (fun cc1 => ?_)
    · replace hf := m_ifF hf cc1
      exact w_pawnGoes_161 X hret hf hM (lv_sub hl [] rfl)
    · replace hf := m_ifT hf cc1
      exact w_pawnGoes_157 X hret hf hM (lv_sub hl [] rfl)
noncomputable def f_pawnGoes_91 (t0 : Int32) (I : Nat → Int32) (A : Nat → Nat → Int32) : Option (Int32 × MS) :=
  m_chk (vp_nar .boolean t0 = t0) (some (t0, (I, A)))

set_option maxRecDepth 100000 in
set_option maxHeartbeats 4000000 in
theorem w_pawnGoes_91 {p : Program} {l : Launch} {e : Env} {s : State} {m : MethodId} {args : Array Value} {below : List Frame} {meth : Method} {c : Code} {Q : State → Prop} {D : va_G} {cy ci : ClassId} {h : Nat → Nat} {A0 : Nat → Prop} {o : Int32 × MS} (X : CallFix p m c cX12_pawnGoes 5 s args wsX12_pawnGoes RX12) (hret : mRi p l e ({ frames := 1, cells := 0, slots := 0, locals := 20 } : Room) s m args below meth c Q cX12_pawnGoes D cy ci h A0 .boolean o) {t0 : Int32} {I : Nat → Int32} {A : Nat → Nat → Int32} {H : Heap} {locs : List Loc} {ls : Array Slot} (hf : f_pawnGoes_91 t0 I A = some o) (hM : mH D cy ci h A0 s H locs I A) (hl : lv_has ls 5 []) : W p l e ({ frames := 1, cells := 0, slots := 0, locals := 20 } : Room) s m args below meth c H locs 0 0 Q (F0 m 91 ls [.int t0]) := by
  obtain ⟨hx, hb, hml, hown, hts⟩ := id X
  unfold f_pawnGoes_91 at hf
  obtain ⟨cd, hf⟩ := m_chkE hf
  cases hf
  exact hret H locs _ ls hM (m_nb cd) dX12_pawnGoes_91
noncomputable def f_pawnGoes_90 (I : Nat → Int32) (A : Nat → Nat → Int32) : Option (Int32 × MS) :=
  f_pawnGoes_91 (0 : Int32) I A

set_option maxRecDepth 100000 in
set_option maxHeartbeats 4000000 in
theorem w_pawnGoes_90 {p : Program} {l : Launch} {e : Env} {s : State} {m : MethodId} {args : Array Value} {below : List Frame} {meth : Method} {c : Code} {Q : State → Prop} {D : va_G} {cy ci : ClassId} {h : Nat → Nat} {A0 : Nat → Prop} {o : Int32 × MS} (X : CallFix p m c cX12_pawnGoes 5 s args wsX12_pawnGoes RX12) (hret : mRi p l e ({ frames := 1, cells := 0, slots := 0, locals := 20 } : Room) s m args below meth c Q cX12_pawnGoes D cy ci h A0 .boolean o) {I : Nat → Int32} {A : Nat → Nat → Int32} {H : Heap} {locs : List Loc} {ls : Array Slot} (hf : f_pawnGoes_90  I A = some o) (hM : mH D cy ci h A0 s H locs I A) (hl : lv_has ls 5 []) : W p l e ({ frames := 1, cells := 0, slots := 0, locals := 20 } : Room) s m args below meth c H locs 0 0 Q (F0 m 90 ls []) := by
  obtain ⟨hx, hb, hml, hown, hts⟩ := id X
  unfold f_pawnGoes_90 at hf
  refine lv_iconst (v := (0 : Int32)) hx hb dX12_pawnGoes_90 (by decide) ?_
  exact w_pawnGoes_91 X hret hf hM (lv_sub hl [] rfl)
noncomputable def f_pawnGoes_63 (x1 : Int32) (x2 : Int32) (x3 : Int32) (t0 : Int32) (t1 : Int32) (I : Nat → Int32) (A : Nat → Nat → Int32) : Option (Int32 × MS) :=
  m_if (t1 = t0) (
  m_bnd (x1 + x3) (fun v1 =>
  m_chk (¬ (v1 < 0 ∨ 64 ≤ (v1).toNatClampNeg)) (
  m_bnd (A 24 (v1).toNatClampNeg) (fun v2 =>
  m_if (v2 = 0) (
  m_chk (¬ (x2 < 0 ∨ 64 ≤ (x2).toNatClampNeg)) (
  m_bnd (A 24 (x2).toNatClampNeg) (fun v3 =>
  m_if (v3 = 0) (
  f_pawnGoes_91 (1 : Int32) I A
  ) (
  f_pawnGoes_90  I A
  )))
  ) (
  f_pawnGoes_90  I A
  ))))
  ) (
  f_pawnGoes_90  I A
  )

set_option maxRecDepth 100000 in
set_option maxHeartbeats 4000000 in
theorem w_pawnGoes_63 {p : Program} {l : Launch} {e : Env} {s : State} {m : MethodId} {args : Array Value} {below : List Frame} {meth : Method} {c : Code} {Q : State → Prop} {D : va_G} {cy ci : ClassId} {h : Nat → Nat} {A0 : Nat → Prop} {o : Int32 × MS} (X : CallFix p m c cX12_pawnGoes 5 s args wsX12_pawnGoes RX12) (hret : mRi p l e ({ frames := 1, cells := 0, slots := 0, locals := 20 } : Room) s m args below meth c Q cX12_pawnGoes D cy ci h A0 .boolean o) {x1 : Int32} {x2 : Int32} {x3 : Int32} {t0 : Int32} {t1 : Int32} {I : Nat → Int32} {A : Nat → Nat → Int32} {H : Heap} {locs : List Loc} {ls : Array Slot} (hf : f_pawnGoes_63 x1 x2 x3 t0 t1 I A = some o) (hM : mH D cy ci h A0 s H locs I A) (hl : lv_has ls 5 [(0, .ref (h 0)), (1, .int x1), (2, .int x2), (3, .int x3)]) : W p l e ({ frames := 1, cells := 0, slots := 0, locals := 20 } : Room) s m args below meth c H locs 0 0 Q (F0 m 63 ls [.int t0, .int t1]) := by
  obtain ⟨hx, hb, hml, hown, hts⟩ := id X
  unfold f_pawnGoes_63 at hf
  refine lv_icmp_ne (tgt := 90) hx hb dX12_pawnGoes_63 (by decide) (fun cc1 => ?_) (fun cc1 => ?_)
  · replace hf := m_ifF hf cc1
    exact w_pawnGoes_90 X hret hf hM (lv_sub hl [] rfl)
  · replace hf := m_ifT hf cc1
    refine lv_aload_n hx hb dX12_pawnGoes_66 rfl (lv_at hl 0 rfl) ?_
    refine m_get (v := .ref (h 24)) X hw_pawnGoes hM 24 (by decide) fl_pawnGoes_24 rfl dX12_pawnGoes_67 ?_
    refine lv_iload_n hx hb dX12_pawnGoes_70 rfl (lv_at hl 1 rfl) ?_
    refine lv_iload_n hx hb dX12_pawnGoes_71 rfl (lv_at hl 3 rfl) ?_
    refine lv_iadd hx hb dX12_pawnGoes_72 ?_
    obtain ⟨v1, ev, hf⟩ := m_bndE hf
    refine m_top ev ?_
    clear ev
    obtain ⟨cd, hf⟩ := m_chkE hf
    refine m_iald X hM 24 20 64 rfl cd dX12_pawnGoes_73 ?_
    clear cd
    obtain ⟨v2, ev, hf⟩ := m_bndE hf
    refine m_top ev ?_
    clear ev
    refine lv_if_ne (tgt := 90) hx hb dX12_pawnGoes_74 (by decide) (fun cc1 => ?_) (fun cc1 => ?_)
    · replace hf := m_ifF hf cc1
      exact w_pawnGoes_90 X hret hf hM (lv_sub hl [] rfl)
    · replace hf := m_ifT hf cc1
      refine lv_aload_n hx hb dX12_pawnGoes_77 rfl (lv_at hl 0 rfl) ?_
      refine m_get (v := .ref (h 24)) X hw_pawnGoes hM 24 (by decide) fl_pawnGoes_24 rfl dX12_pawnGoes_78 ?_
      refine lv_iload_n hx hb dX12_pawnGoes_81 rfl (lv_at hl 2 rfl) ?_
      obtain ⟨cd, hf⟩ := m_chkE hf
      refine m_iald X hM 24 20 64 rfl cd dX12_pawnGoes_82 ?_
      clear cd
      obtain ⟨v3, ev, hf⟩ := m_bndE hf
      refine m_top ev ?_
      clear ev
      refine lv_if_ne (tgt := 90) hx hb dX12_pawnGoes_83 (by decide) (fun cc1 => ?_) (fun cc1 => ?_)
      · replace hf := m_ifF hf cc1
        exact w_pawnGoes_90 X hret hf hM (lv_sub hl [] rfl)
      · replace hf := m_ifT hf cc1
        refine lv_iconst (v := (1 : Int32)) hx hb dX12_pawnGoes_86 (by decide) ?_
        refine lv_goto (tgt := 91) hx hb dX12_pawnGoes_87 (by decide) ?_
        exact w_pawnGoes_91 X hret hf hM (lv_sub hl [] rfl)
noncomputable def f_pawnGoes_36 (t0 : Int32) (I : Nat → Int32) (A : Nat → Nat → Int32) : Option (Int32 × MS) :=
  m_chk (vp_nar .boolean t0 = t0) (some (t0, (I, A)))

set_option maxRecDepth 100000 in
set_option maxHeartbeats 4000000 in
theorem w_pawnGoes_36 {p : Program} {l : Launch} {e : Env} {s : State} {m : MethodId} {args : Array Value} {below : List Frame} {meth : Method} {c : Code} {Q : State → Prop} {D : va_G} {cy ci : ClassId} {h : Nat → Nat} {A0 : Nat → Prop} {o : Int32 × MS} (X : CallFix p m c cX12_pawnGoes 5 s args wsX12_pawnGoes RX12) (hret : mRi p l e ({ frames := 1, cells := 0, slots := 0, locals := 20 } : Room) s m args below meth c Q cX12_pawnGoes D cy ci h A0 .boolean o) {t0 : Int32} {I : Nat → Int32} {A : Nat → Nat → Int32} {H : Heap} {locs : List Loc} {ls : Array Slot} (hf : f_pawnGoes_36 t0 I A = some o) (hM : mH D cy ci h A0 s H locs I A) (hl : lv_has ls 5 []) : W p l e ({ frames := 1, cells := 0, slots := 0, locals := 20 } : Room) s m args below meth c H locs 0 0 Q (F0 m 36 ls [.int t0]) := by
  obtain ⟨hx, hb, hml, hown, hts⟩ := id X
  unfold f_pawnGoes_36 at hf
  obtain ⟨cd, hf⟩ := m_chkE hf
  cases hf
  exact hret H locs _ ls hM (m_nb cd) dX12_pawnGoes_36
noncomputable def f_pawnGoes_14 (x1 : Int32) (x2 : Int32) (t0 : Int32) (I : Nat → Int32) (A : Nat → Nat → Int32) : Option (Int32 × MS) :=
  m_bnd (x1 + t0) (fun v1 =>
  m_if (x2 = v1) (
  m_chk (¬ (x2 < 0 ∨ 64 ≤ (x2).toNatClampNeg)) (
  m_bnd (A 24 (x2).toNatClampNeg) (fun v12 =>
  m_if (v12 = 0) (
  f_pawnGoes_36 (1 : Int32) I A
  ) (
  f_pawnGoes_36 (0 : Int32) I A
  )))
  ) (
  m_bnd ((2 : Int32) * t0) (fun v2 =>
  m_bnd (x1 + v2) (fun v3 =>
  m_if (x2 = v3) (
  m_bnd (x1 / (8 : Int32)) (fun v11 =>
  m_if ((I 25) = 0) (
  f_pawnGoes_63 x1 x2 t0 (1 : Int32) v11 I A
  ) (
  f_pawnGoes_63 x1 x2 t0 (6 : Int32) v11 I A
  ))
  ) (
  m_bnd (x2 - x2 / (8 : Int32) * (8 : Int32)) (fun v4 =>
  m_bnd (x1 - x1 / (8 : Int32) * (8 : Int32)) (fun v5 =>
  m_bnd (v4 - v5) (fun v6 =>
  m_bnd (x2 / (8 : Int32)) (fun v7 =>
  m_bnd (x1 / (8 : Int32)) (fun v8 =>
  m_bnd (t0 / (8 : Int32)) (fun v9 =>
  m_bnd (v8 + v9) (fun v10 =>
  m_if (v7 = v10) (
  m_if (v6 = (1 : Int32)) (
  f_pawnGoes_131 x2 I A
  ) (
  m_if (v6 = (-1 : Int32)) (
  f_pawnGoes_131 x2 I A
  ) (
  f_pawnGoes_161  I A
  )
  )
  ) (
  f_pawnGoes_161  I A
  ))))))))
  )))
  ))

set_option maxRecDepth 100000 in
set_option maxHeartbeats 4000000 in
theorem w_pawnGoes_14 {p : Program} {l : Launch} {e : Env} {s : State} {m : MethodId} {args : Array Value} {below : List Frame} {meth : Method} {c : Code} {Q : State → Prop} {D : va_G} {cy ci : ClassId} {h : Nat → Nat} {A0 : Nat → Prop} {o : Int32 × MS} (X : CallFix p m c cX12_pawnGoes 5 s args wsX12_pawnGoes RX12) (hret : mRi p l e ({ frames := 1, cells := 0, slots := 0, locals := 20 } : Room) s m args below meth c Q cX12_pawnGoes D cy ci h A0 .boolean o) {x1 : Int32} {x2 : Int32} {t0 : Int32} {I : Nat → Int32} {A : Nat → Nat → Int32} {H : Heap} {locs : List Loc} {ls : Array Slot} (hf : f_pawnGoes_14 x1 x2 t0 I A = some o) (hM : mH D cy ci h A0 s H locs I A) (hl : lv_has ls 5 [(0, .ref (h 0)), (1, .int x1), (2, .int x2)]) : W p l e ({ frames := 1, cells := 0, slots := 0, locals := 20 } : Room) s m args below meth c H locs 0 0 Q (F0 m 14 ls [.int t0]) := by
  obtain ⟨hx, hb, hml, hown, hts⟩ := id X
  unfold f_pawnGoes_14 at hf
  refine lv_istore_n (lv' := [(3, .int t0), (0, .ref (h 0)), (1, .int x1), (2, .int x2)]) hx hb dX12_pawnGoes_14 rfl hl (by decide) rfl (fun ls hl => ?_)
  refine lv_iload_n hx hb dX12_pawnGoes_15 rfl (lv_at hl 3 rfl) ?_
  refine lv_iload_n hx hb dX12_pawnGoes_16 rfl (lv_at hl 2 rfl) ?_
  refine lv_iload_n hx hb dX12_pawnGoes_17 rfl (lv_at hl 0 rfl) ?_
  refine lv_iadd hx hb dX12_pawnGoes_18 ?_
  obtain ⟨v1, ev, hf⟩ := m_bndE hf
  refine m_top ev ?_
  clear ev
  refine lv_icmp_ne (tgt := 37) hx hb dX12_pawnGoes_19 (by decide) (fun cc1 => ?_) (fun cc1 => ?_)
  · replace hf := m_ifF hf cc1
    refine lv_iload_n hx hb dX12_pawnGoes_37 rfl (lv_at hl 3 rfl) ?_
    refine lv_iload_n hx hb dX12_pawnGoes_38 rfl (lv_at hl 2 rfl) ?_
    refine lv_iconst (v := (2 : Int32)) hx hb dX12_pawnGoes_39 (by decide) ?_
    refine lv_iload_n hx hb dX12_pawnGoes_40 rfl (lv_at hl 0 rfl) ?_
    refine lv_imul hx hb dX12_pawnGoes_41 ?_
    obtain ⟨v2, ev, hf⟩ := m_bndE hf
    refine m_top ev ?_
    clear ev
    refine lv_iadd hx hb dX12_pawnGoes_42 ?_
    obtain ⟨v3, ev, hf⟩ := m_bndE hf
    refine m_top ev ?_
    clear ev
    refine lv_icmp_ne (tgt := 92) hx hb dX12_pawnGoes_43 (by decide) (fun cc1 => ?_) (fun cc1 => ?_)
    · replace hf := m_ifF hf cc1
      refine lv_iload_n hx hb dX12_pawnGoes_92 rfl (lv_at hl 3 rfl) ?_
      refine lv_bipush (v := (8 : Int32)) hx hb dX12_pawnGoes_93 (by decide) ?_
      refine lv_irem hx hb dX12_pawnGoes_95 (by decide) ?_
      obtain ⟨v4, ev, hf⟩ := m_bndE hf
      refine m_top ev ?_
      clear ev
      refine lv_iload_n hx hb dX12_pawnGoes_96 rfl (lv_at hl 2 rfl) ?_
      refine lv_bipush (v := (8 : Int32)) hx hb dX12_pawnGoes_97 (by decide) ?_
      refine lv_irem hx hb dX12_pawnGoes_99 (by decide) ?_
      obtain ⟨v5, ev, hf⟩ := m_bndE hf
      refine m_top ev ?_
      clear ev
      refine lv_isub hx hb dX12_pawnGoes_100 ?_
      obtain ⟨v6, ev, hf⟩ := m_bndE hf
      refine m_top ev ?_
      clear ev
      refine lv_istore (lv' := [(4, .int v6), (3, .int t0), (0, .ref (h 0)), (1, .int x1), (2, .int x2)]) hx hb dX12_pawnGoes_101 hl (by decide) rfl (fun ls hl => ?_)
      refine lv_iload_n hx hb dX12_pawnGoes_103 rfl (lv_at hl 4 rfl) ?_
      refine lv_bipush (v := (8 : Int32)) hx hb dX12_pawnGoes_104 (by decide) ?_
      refine lv_idiv hx hb dX12_pawnGoes_106 (by decide) ?_
      obtain ⟨v7, ev, hf⟩ := m_bndE hf
      refine m_top ev ?_
      clear ev
      refine lv_iload_n hx hb dX12_pawnGoes_107 rfl (lv_at hl 3 rfl) ?_
      refine lv_bipush (v := (8 : Int32)) hx hb dX12_pawnGoes_108 (by decide) ?_
      refine lv_idiv hx hb dX12_pawnGoes_110 (by decide) ?_
      obtain ⟨v8, ev, hf⟩ := m_bndE hf
      refine m_top ev ?_
      clear ev
      refine lv_iload_n hx hb dX12_pawnGoes_111 rfl (lv_at hl 1 rfl) ?_
      refine lv_bipush (v := (8 : Int32)) hx hb dX12_pawnGoes_112 (by decide) ?_
      refine lv_idiv hx hb dX12_pawnGoes_114 (by decide) ?_
      obtain ⟨v9, ev, hf⟩ := m_bndE hf
      refine m_top ev ?_
      clear ev
      refine lv_iadd hx hb dX12_pawnGoes_115 ?_
      obtain ⟨v10, ev, hf⟩ := m_bndE hf
      refine m_top ev ?_
      clear ev
      refine lv_icmp_ne (tgt := 161) hx hb dX12_pawnGoes_116 (by decide) (fun cc1 => ?_) (fun cc1 => ?_)
      · replace hf := m_ifF hf cc1
        exact w_pawnGoes_161 X hret hf hM (lv_sub hl [] rfl)
      · replace hf := m_ifT hf cc1
        refine lv_iload hx hb dX12_pawnGoes_119 (lv_at hl 0 rfl) ?_
        refine lv_iconst (v := (1 : Int32)) hx hb dX12_pawnGoes_121 (by decide) ?_
        refine lv_icmp_eq (tgt := 131) hx hb dX12_pawnGoes_122 (by decide) (fun cc1 => ?_) (fun cc1 => ?_)
        · replace hf := m_ifT hf cc1
          exact w_pawnGoes_131 X hret hf hM (lv_sub hl [2, 4] rfl)
        · replace hf := m_ifF hf cc1
          refine lv_iload hx hb dX12_pawnGoes_125 (lv_at hl 0 rfl) ?_
          refine lv_iconst (v := (-1 : Int32)) hx hb dX12_pawnGoes_127 (by decide) ?_
          refine lv_icmp_ne (tgt := 161) hx hb dX12_pawnGoes_128 (by decide) (fun cc1 => ?_) (fun cc1 => ?_)
          · replace hf := m_ifF hf cc1
            exact w_pawnGoes_161 X hret hf hM (lv_sub hl [] rfl)
          · replace hf := m_ifT hf cc1
            exact w_pawnGoes_131 X hret hf hM (lv_sub hl [2, 4] rfl)
    · replace hf := m_ifT hf cc1
      refine lv_iload_n hx hb dX12_pawnGoes_46 rfl (lv_at hl 2 rfl) ?_
      refine lv_bipush (v := (8 : Int32)) hx hb dX12_pawnGoes_47 (by decide) ?_
      refine lv_idiv hx hb dX12_pawnGoes_49 (by decide) ?_
      obtain ⟨v11, ev, hf⟩ := m_bndE hf
      refine m_top ev ?_
      clear ev
      refine lv_aload_n hx hb dX12_pawnGoes_50 rfl (lv_at hl 1 rfl) ?_
      refine m_get (v := .int (I 25)) X hw_pawnGoes hM 25 (by decide) fl_pawnGoes_25 rfl dX12_pawnGoes_51 ?_
      refine lv_if_ne (tgt := 61) hx hb dX12_pawnGoes_54 (by decide) (fun cc1 => ?_) (fun cc1 => ?_)
      · replace hf := m_ifF hf cc1
        refine lv_bipush (v := (6 : Int32)) hx hb dX12_pawnGoes_61 (by decide) ?_
        exact w_pawnGoes_63 X hret hf hM (lv_sub hl [1, 2, 3, 0] rfl)
      · replace hf := m_ifT hf cc1
        refine lv_iconst (v := (1 : Int32)) hx hb dX12_pawnGoes_57 (by decide) ?_
        refine lv_goto (tgt := 63) hx hb dX12_pawnGoes_58 (by decide) ?_
        exact w_pawnGoes_63 X hret hf hM (lv_sub hl [1, 2, 3, 0] rfl)
  · replace hf := m_ifT hf cc1
    refine lv_aload_n hx hb dX12_pawnGoes_22 rfl (lv_at hl 1 rfl) ?_
    refine m_get (v := .ref (h 24)) X hw_pawnGoes hM 24 (by decide) fl_pawnGoes_24 rfl dX12_pawnGoes_23 ?_
    refine lv_iload_n hx hb dX12_pawnGoes_26 rfl (lv_at hl 3 rfl) ?_
    obtain ⟨cd, hf⟩ := m_chkE hf
    refine m_iald X hM 24 20 64 rfl cd dX12_pawnGoes_27 ?_
    clear cd
    obtain ⟨v12, ev, hf⟩ := m_bndE hf
    refine m_top ev ?_
    clear ev
    refine lv_if_ne (tgt := 35) hx hb dX12_pawnGoes_28 (by decide) (fun cc1 => ?_) (fun cc1 => ?_)
    · replace hf := m_ifF hf cc1
      refine lv_iconst (v := (0 : Int32)) hx hb dX12_pawnGoes_35 (by decide) ?_
      exact w_pawnGoes_36 X hret hf hM (lv_sub hl [] rfl)
    · replace hf := m_ifT hf cc1
      refine lv_iconst (v := (1 : Int32)) hx hb dX12_pawnGoes_31 (by decide) ?_
      refine lv_goto (tgt := 36) hx hb dX12_pawnGoes_32 (by decide) ?_
      exact w_pawnGoes_36 X hret hf hM (lv_sub hl [] rfl)
noncomputable def f_pawnGoes_0 (x1 : Int32) (x2 : Int32) (I : Nat → Int32) (A : Nat → Nat → Int32) : Option (Int32 × MS) :=
  m_if ((I 25) = 0) (
  f_pawnGoes_14 x1 x2 (8 : Int32) I A
  ) (
  f_pawnGoes_14 x1 x2 (-8 : Int32) I A
  )

set_option maxRecDepth 100000 in
set_option maxHeartbeats 4000000 in
theorem w_pawnGoes_0 {p : Program} {l : Launch} {e : Env} {s : State} {m : MethodId} {args : Array Value} {below : List Frame} {meth : Method} {c : Code} {Q : State → Prop} {D : va_G} {cy ci : ClassId} {h : Nat → Nat} {A0 : Nat → Prop} {o : Int32 × MS} (X : CallFix p m c cX12_pawnGoes 5 s args wsX12_pawnGoes RX12) (hret : mRi p l e ({ frames := 1, cells := 0, slots := 0, locals := 20 } : Room) s m args below meth c Q cX12_pawnGoes D cy ci h A0 .boolean o) {x1 : Int32} {x2 : Int32} {I : Nat → Int32} {A : Nat → Nat → Int32} {H : Heap} {locs : List Loc} {ls : Array Slot} (hf : f_pawnGoes_0 x1 x2 I A = some o) (hM : mH D cy ci h A0 s H locs I A) (hl : lv_has ls 5 [(0, .ref (h 0)), (1, .int x1), (2, .int x2)]) : W p l e ({ frames := 1, cells := 0, slots := 0, locals := 20 } : Room) s m args below meth c H locs 0 0 Q (F0 m 0 ls []) := by
  obtain ⟨hx, hb, hml, hown, hts⟩ := id X
  unfold f_pawnGoes_0 at hf
  refine lv_aload_n hx hb dX12_pawnGoes_0 rfl (lv_at hl 0 rfl) ?_
  refine m_get (v := .int (I 25)) X hw_pawnGoes hM 25 (by decide) fl_pawnGoes_25 rfl dX12_pawnGoes_1 ?_
  refine lv_if_ne (tgt := 12) hx hb dX12_pawnGoes_4 (by decide) (fun cc1 => ?_) (fun cc1 => ?_)
  · replace hf := m_ifF hf cc1
    refine lv_bipush (v := (-8 : Int32)) hx hb dX12_pawnGoes_12 (by decide) ?_
    exact w_pawnGoes_14 X hret hf hM (lv_sub hl [0, 1, 2] rfl)
  · replace hf := m_ifT hf cc1
    refine lv_bipush (v := (8 : Int32)) hx hb dX12_pawnGoes_7 (by decide) ?_
    refine lv_goto (tgt := 14) hx hb dX12_pawnGoes_9 (by decide) ?_
    exact w_pawnGoes_14 X hret hf hM (lv_sub hl [0, 1, 2] rfl)
noncomputable def f_pawnGoes (x1 : Int32) (x2 : Int32) (I : Nat → Int32) (A : Nat → Nat → Int32) : Option (Int32 × MS) := f_pawnGoes_0 x1 x2 I A
theorem c_pawnGoes {l : Launch} {D : va_G} {cy ci : ClassId} {h : Nat → Nat} {x1 : Int32} {x2 : Int32} {I : Nat → Int32} {A : Nat → Nat → Int32} {o : Int32 × MS} (hf : f_pawnGoes x1 x2 I A = some o) : mMi l yX12_pawnGoes wsX12_pawnGoes ({ frames := 1, cells := 0, slots := 0, locals := 20 } : Room) [.ref (h 0), .int x1, .int x2] D cy ci h I A o :=
  m_entryI (cc := cX12_pawnGoes) (maxL := 5) (by decide) rfl rfl (Nat.le_of_ble_eq_true rfl) (fun p e s m args below meth c A0 Q H locs ls X hret hM hl => w_pawnGoes_0 X hret hf hM (lv_sub hl [0, 1, 2] rfl))
end
section
theorem hw_isClear : ∀ w ∈ wsX120, w ∈ wsX12_isClear := by decide +kernel
theorem fl_isClear_24 : Cond.fieldLink RX12 70 "MoveTextsModel" "men" "[I" ∈ wsX12_isClear := by decide +kernel
theorem hd_isClear : yX12_isClear.cls = RX12 ∧ yX12_isClear.cls ≠ "java/lang/invoke/MethodHandle" ∧ yX12_isClear.cls ≠ "java/lang/invoke/VarHandle" ∧ (parseMethodDescriptor yX12_isClear.desc).map (fun d => d.parameters.length) = some 2 := by decide +kernel
noncomputable def f_isClear_30 (self5 : Int32 → Int32 → Int32 → (Nat → Int32) → (Nat → Nat → Int32) → Option (Int32 × MS)) (x2 : Int32) (x4 : Int32) (t0 : Int32) (I : Nat → Int32) (A : Nat → Nat → Int32) : Option (Int32 × MS) :=
  m_bnd (x4 + (1 : Int32)) (fun v1 =>
  self5 x2 t0 v1 I A)

set_option maxRecDepth 100000 in
set_option maxHeartbeats 4000000 in
theorem w_isClear_30 {p : Program} {l : Launch} {e : Env} {s : State} {m : MethodId} {args : Array Value} {below : List Frame} {meth : Method} {c : Code} {Q : State → Prop} {D : va_G} {cy ci : ClassId} {h : Nat → Nat} {A0 : Nat → Prop} {o : Int32 × MS} (X : CallFix p m c cX12_isClear 5 s args wsX12_isClear RX12) (hret : mRi p l e ({ frames := 0, cells := 0, slots := 0, locals := 0 } : Room) s m args below meth c Q cX12_isClear D cy ci h A0 .boolean o) {self5 : Int32 → Int32 → Int32 → (Nat → Int32) → (Nat → Nat → Int32) → Option (Int32 × MS)} (hself5 : ∀ (x2 : Int32) (x3 : Int32) (x4 : Int32) (I : Nat → Int32) (A : Nat → Nat → Int32) (H : Heap) (locs : List Loc) (ls : Array Slot), self5 x2 x3 x4 I A = some o → mH D cy ci h A0 s H locs I A → lv_has ls 5 [(0, .ref (h 0)), (2, .int x2), (3, .int x3), (4, .int x4)] → W p l e ({ frames := 0, cells := 0, slots := 0, locals := 0 } : Room) s m args below meth c H locs 0 0 Q (F0 m 5 ls [])) {x2 : Int32} {x4 : Int32} {t0 : Int32} {I : Nat → Int32} {A : Nat → Nat → Int32} {H : Heap} {locs : List Loc} {ls : Array Slot} (hf : f_isClear_30 self5 x2 x4 t0 I A = some o) (hM : mH D cy ci h A0 s H locs I A) (hl : lv_has ls 5 [(0, .ref (h 0)), (2, .int x2), (4, .int x4)]) : W p l e ({ frames := 0, cells := 0, slots := 0, locals := 0 } : Room) s m args below meth c H locs 0 0 Q (F0 m 30 ls [.int t0]) := by
  obtain ⟨hx, hb, hml, hown, hts⟩ := id X
  unfold f_isClear_30 at hf
  refine lv_istore_n (lv' := [(3, .int t0), (0, .ref (h 0)), (2, .int x2), (4, .int x4)]) hx hb dX12_isClear_30 rfl hl (by decide) rfl (fun ls hl => ?_)
  obtain ⟨v1, ev, hf⟩ := m_bndE hf
  refine lv_iinc (v := v1) (lv' := [(4, .int v1), (3, .int t0), (0, .ref (h 0)), (2, .int x2)]) hx hb dX12_isClear_31 hl (k := 3) rfl (by rw [ev]; rfl) (by decide) rfl (fun ls hl => ?_)
  clear ev
  refine lv_goto (tgt := 5) hx hb dX12_isClear_34 (by decide) ?_
  exact hself5 _ _ _ _ _ _ _ _ hf hM (lv_sub hl [2, 3, 1, 0] rfl)
noncomputable def f_isClear_29 (self5 : Int32 → Int32 → Int32 → (Nat → Int32) → (Nat → Nat → Int32) → Option (Int32 × MS)) (x2 : Int32) (x4 : Int32) (I : Nat → Int32) (A : Nat → Nat → Int32) : Option (Int32 × MS) :=
  f_isClear_30 self5 x2 x4 (0 : Int32) I A

set_option maxRecDepth 100000 in
set_option maxHeartbeats 4000000 in
theorem w_isClear_29 {p : Program} {l : Launch} {e : Env} {s : State} {m : MethodId} {args : Array Value} {below : List Frame} {meth : Method} {c : Code} {Q : State → Prop} {D : va_G} {cy ci : ClassId} {h : Nat → Nat} {A0 : Nat → Prop} {o : Int32 × MS} (X : CallFix p m c cX12_isClear 5 s args wsX12_isClear RX12) (hret : mRi p l e ({ frames := 0, cells := 0, slots := 0, locals := 0 } : Room) s m args below meth c Q cX12_isClear D cy ci h A0 .boolean o) {self5 : Int32 → Int32 → Int32 → (Nat → Int32) → (Nat → Nat → Int32) → Option (Int32 × MS)} (hself5 : ∀ (x2 : Int32) (x3 : Int32) (x4 : Int32) (I : Nat → Int32) (A : Nat → Nat → Int32) (H : Heap) (locs : List Loc) (ls : Array Slot), self5 x2 x3 x4 I A = some o → mH D cy ci h A0 s H locs I A → lv_has ls 5 [(0, .ref (h 0)), (2, .int x2), (3, .int x3), (4, .int x4)] → W p l e ({ frames := 0, cells := 0, slots := 0, locals := 0 } : Room) s m args below meth c H locs 0 0 Q (F0 m 5 ls [])) {x2 : Int32} {x4 : Int32} {I : Nat → Int32} {A : Nat → Nat → Int32} {H : Heap} {locs : List Loc} {ls : Array Slot} (hf : f_isClear_29 self5 x2 x4 I A = some o) (hM : mH D cy ci h A0 s H locs I A) (hl : lv_has ls 5 [(0, .ref (h 0)), (2, .int x2), (4, .int x4)]) : W p l e ({ frames := 0, cells := 0, slots := 0, locals := 0 } : Room) s m args below meth c H locs 0 0 Q (F0 m 29 ls []) := by
  obtain ⟨hx, hb, hml, hown, hts⟩ := id X
  unfold f_isClear_29 at hf
  refine lv_iconst (v := (0 : Int32)) hx hb dX12_isClear_29 (by decide) ?_
  exact w_isClear_30 X hret hself5 hf hM (lv_sub hl [0, 1, 2] rfl)
noncomputable def f_isClear_5s (self5 : Int32 → Int32 → Int32 → (Nat → Int32) → (Nat → Nat → Int32) → Option (Int32 × MS)) (x2 : Int32) (x3 : Int32) (x4 : Int32) (I : Nat → Int32) (A : Nat → Nat → Int32) : Option (Int32 × MS) :=
  m_if (x2 < x4) (
  m_chk (vp_nar .boolean x3 = x3) (some (x3, (I, A)))
  ) (
  m_if (x3 = 0) (
  f_isClear_29 self5 x2 x4 I A
  ) (
  m_chk (¬ (x4 < 0 ∨ 64 ≤ (x4).toNatClampNeg)) (
  m_bnd (A 24 (x4).toNatClampNeg) (fun v1 =>
  m_if (v1 = 0) (
  f_isClear_30 self5 x2 x4 (1 : Int32) I A
  ) (
  f_isClear_29 self5 x2 x4 I A
  )))
  )
  )

set_option maxRecDepth 100000 in
set_option maxHeartbeats 4000000 in
theorem ws_isClear_5 {p : Program} {l : Launch} {e : Env} {s : State} {m : MethodId} {args : Array Value} {below : List Frame} {meth : Method} {c : Code} {Q : State → Prop} {D : va_G} {cy ci : ClassId} {h : Nat → Nat} {A0 : Nat → Prop} {o : Int32 × MS} (X : CallFix p m c cX12_isClear 5 s args wsX12_isClear RX12) (hret : mRi p l e ({ frames := 0, cells := 0, slots := 0, locals := 0 } : Room) s m args below meth c Q cX12_isClear D cy ci h A0 .boolean o) {self5 : Int32 → Int32 → Int32 → (Nat → Int32) → (Nat → Nat → Int32) → Option (Int32 × MS)} (hself5 : ∀ (x2 : Int32) (x3 : Int32) (x4 : Int32) (I : Nat → Int32) (A : Nat → Nat → Int32) (H : Heap) (locs : List Loc) (ls : Array Slot), self5 x2 x3 x4 I A = some o → mH D cy ci h A0 s H locs I A → lv_has ls 5 [(0, .ref (h 0)), (2, .int x2), (3, .int x3), (4, .int x4)] → W p l e ({ frames := 0, cells := 0, slots := 0, locals := 0 } : Room) s m args below meth c H locs 0 0 Q (F0 m 5 ls [])) {x2 : Int32} {x3 : Int32} {x4 : Int32} {I : Nat → Int32} {A : Nat → Nat → Int32} {H : Heap} {locs : List Loc} {ls : Array Slot} (hf : f_isClear_5s self5 x2 x3 x4 I A = some o) (hM : mH D cy ci h A0 s H locs I A) (hl : lv_has ls 5 [(0, .ref (h 0)), (2, .int x2), (3, .int x3), (4, .int x4)]) : W p l e ({ frames := 0, cells := 0, slots := 0, locals := 0 } : Room) s m args below meth c H locs 0 0 Q (F0 m 5 ls []) := by
  obtain ⟨hx, hb, hml, hown, hts⟩ := id X
  unfold f_isClear_5s at hf
  refine lv_iload hx hb dX12_isClear_5 (lv_at hl 3 rfl) ?_
  refine lv_iload_n hx hb dX12_isClear_7 rfl (lv_at hl 1 rfl) ?_
  refine lv_icmp_gt (tgt := 37) hx hb dX12_isClear_8 (by decide) (fun cc1 => ?_) (fun cc1 => ?_)
  · replace hf := m_ifT hf cc1
    refine lv_iload_n hx hb dX12_isClear_37 rfl (lv_at hl 2 rfl) ?_
    obtain ⟨cd, hf⟩ := m_chkE hf
    cases hf
    exact hret H locs _ ls hM (m_nb cd) dX12_isClear_38
  · replace hf := m_ifF hf cc1
    refine lv_iload_n hx hb dX12_isClear_11 rfl (lv_at hl 2 rfl) ?_
    refine lv_if_eq (tgt := 29) hx hb dX12_isClear_12 (by decide) (fun cc1 => ?_) (fun cc1 => ?_)
    · replace hf := m_ifT hf cc1
      exact w_isClear_29 X hret hself5 hf hM (lv_sub hl [0, 1, 3] rfl)
    · replace hf := m_ifF hf cc1
      refine lv_aload_n hx hb dX12_isClear_15 rfl (lv_at hl 0 rfl) ?_
      refine m_get (v := .ref (h 24)) X hw_isClear hM 24 (by decide) fl_isClear_24 rfl dX12_isClear_16 ?_
      refine lv_iload hx hb dX12_isClear_19 (lv_at hl 3 rfl) ?_
      obtain ⟨cd, hf⟩ := m_chkE hf
      refine m_iald X hM 24 20 64 rfl cd dX12_isClear_21 ?_
      clear cd
      obtain ⟨v1, ev, hf⟩ := m_bndE hf
      refine m_top ev ?_
      clear ev
      refine lv_if_ne (tgt := 29) hx hb dX12_isClear_22 (by decide) (fun cc1 => ?_) (fun cc1 => ?_)
      · replace hf := m_ifF hf cc1
        exact w_isClear_29 X hret hself5 hf hM (lv_sub hl [0, 1, 3] rfl)
      · replace hf := m_ifT hf cc1
        refine lv_iconst (v := (1 : Int32)) hx hb dX12_isClear_25 (by decide) ?_
        refine lv_goto (tgt := 30) hx hb dX12_isClear_26 (by decide) ?_
        exact w_isClear_30 X hret hself5 hf hM (lv_sub hl [0, 1, 3] rfl)
noncomputable def f_isClear_5 : Nat → Int32 → Int32 → Int32 → (Nat → Int32) → (Nat → Nat → Int32) → Option (Int32 × MS)
  | 0 => fun _ _ _ _ _ => none
  | n + 1 => f_isClear_5s (f_isClear_5 n)
theorem w_isClear_5 {p : Program} {l : Launch} {e : Env} {s : State} {m : MethodId} {args : Array Value} {below : List Frame} {meth : Method} {c : Code} {Q : State → Prop} {D : va_G} {cy ci : ClassId} {h : Nat → Nat} {A0 : Nat → Prop} {o : Int32 × MS} (X : CallFix p m c cX12_isClear 5 s args wsX12_isClear RX12) (hret : mRi p l e ({ frames := 0, cells := 0, slots := 0, locals := 0 } : Room) s m args below meth c Q cX12_isClear D cy ci h A0 .boolean o) (n : Nat) : ∀ (x2 : Int32) (x3 : Int32) (x4 : Int32) (I : Nat → Int32) (A : Nat → Nat → Int32) (H : Heap) (locs : List Loc) (ls : Array Slot), f_isClear_5 n x2 x3 x4 I A = some o → mH D cy ci h A0 s H locs I A → lv_has ls 5 [(0, .ref (h 0)), (2, .int x2), (3, .int x3), (4, .int x4)] → W p l e ({ frames := 0, cells := 0, slots := 0, locals := 0 } : Room) s m args below meth c H locs 0 0 Q (F0 m 5 ls []) := by
  induction n with
  | zero => intro x2 x3 x4 I A H locs ls hf; cases hf
  | succ n ih => intro x2 x3 x4 I A H locs ls hf hM hl; exact ws_isClear_5 X hret (self5 := f_isClear_5 n) ih hf hM hl
noncomputable def f_isClear_0 (x1 : Int32) (x2 : Int32) (I : Nat → Int32) (A : Nat → Nat → Int32) : Option (Int32 × MS) :=
  f_isClear_5 mFuel x2 (1 : Int32) x1 I A

set_option maxRecDepth 100000 in
set_option maxHeartbeats 4000000 in
theorem w_isClear_0 {p : Program} {l : Launch} {e : Env} {s : State} {m : MethodId} {args : Array Value} {below : List Frame} {meth : Method} {c : Code} {Q : State → Prop} {D : va_G} {cy ci : ClassId} {h : Nat → Nat} {A0 : Nat → Prop} {o : Int32 × MS} (X : CallFix p m c cX12_isClear 5 s args wsX12_isClear RX12) (hret : mRi p l e ({ frames := 0, cells := 0, slots := 0, locals := 0 } : Room) s m args below meth c Q cX12_isClear D cy ci h A0 .boolean o) {x1 : Int32} {x2 : Int32} {I : Nat → Int32} {A : Nat → Nat → Int32} {H : Heap} {locs : List Loc} {ls : Array Slot} (hf : f_isClear_0 x1 x2 I A = some o) (hM : mH D cy ci h A0 s H locs I A) (hl : lv_has ls 5 [(0, .ref (h 0)), (1, .int x1), (2, .int x2)]) : W p l e ({ frames := 0, cells := 0, slots := 0, locals := 0 } : Room) s m args below meth c H locs 0 0 Q (F0 m 0 ls []) := by
  obtain ⟨hx, hb, hml, hown, hts⟩ := id X
  unfold f_isClear_0 at hf
  refine lv_iconst (v := (1 : Int32)) hx hb dX12_isClear_0 (by decide) ?_
  refine lv_istore_n (lv' := [(3, .int (1 : Int32)), (0, .ref (h 0)), (1, .int x1), (2, .int x2)]) hx hb dX12_isClear_1 rfl hl (by decide) rfl (fun ls hl => ?_)
  refine lv_iload_n hx hb dX12_isClear_2 rfl (lv_at hl 2 rfl) ?_
  refine lv_istore (lv' := [(4, .int x1), (3, .int (1 : Int32)), (0, .ref (h 0)), (1, .int x1), (2, .int x2)]) hx hb dX12_isClear_3 hl (by decide) rfl (fun ls hl => ?_)
  exact w_isClear_5 X hret _ _ _ _ _ _ _ _ _ hf hM (lv_sub hl [2, 4, 1, 0] rfl)
noncomputable def f_isClear (x1 : Int32) (x2 : Int32) (I : Nat → Int32) (A : Nat → Nat → Int32) : Option (Int32 × MS) := f_isClear_0 x1 x2 I A
theorem c_isClear {l : Launch} {D : va_G} {cy ci : ClassId} {h : Nat → Nat} {x1 : Int32} {x2 : Int32} {I : Nat → Int32} {A : Nat → Nat → Int32} {o : Int32 × MS} (hf : f_isClear x1 x2 I A = some o) : mMi l yX12_isClear wsX12_isClear ({ frames := 0, cells := 0, slots := 0, locals := 0 } : Room) [.ref (h 0), .int x1, .int x2] D cy ci h I A o :=
  m_entryI (cc := cX12_isClear) (maxL := 5) (by decide) rfl rfl (Nat.le_of_ble_eq_true rfl) (fun p e s m args below meth c A0 Q H locs ls X hret hM hl => w_isClear_0 X hret hf hM (lv_sub hl [0, 1, 2] rfl))
theorem hw_met : ∀ w ∈ wsX120, w ∈ wsX12_met := by decide +kernel
theorem fl_met_24 : Cond.fieldLink RX12 70 "MoveTextsModel" "men" "[I" ∈ wsX12_met := by decide +kernel
theorem hd_met : yX12_met.cls = RX12 ∧ yX12_met.cls ≠ "java/lang/invoke/MethodHandle" ∧ yX12_met.cls ≠ "java/lang/invoke/VarHandle" ∧ (parseMethodDescriptor yX12_met.desc).map (fun d => d.parameters.length) = some 3 := by decide +kernel
noncomputable def f_met_51 (t0 : Int32) (I : Nat → Int32) (A : Nat → Nat → Int32) : Option (Int32 × MS) :=
  some (t0, (I, A))

set_option maxRecDepth 100000 in
set_option maxHeartbeats 4000000 in
theorem w_met_51 {p : Program} {l : Launch} {e : Env} {s : State} {m : MethodId} {args : Array Value} {below : List Frame} {meth : Method} {c : Code} {Q : State → Prop} {D : va_G} {cy ci : ClassId} {h : Nat → Nat} {A0 : Nat → Prop} {o : Int32 × MS} (X : CallFix p m c cX12_met 5 s args wsX12_met RX12) (hret : mRi p l e ({ frames := 1, cells := 0, slots := 0, locals := 24 } : Room) s m args below meth c Q cX12_met D cy ci h A0 .int o) {t0 : Int32} {I : Nat → Int32} {A : Nat → Nat → Int32} {H : Heap} {locs : List Loc} {ls : Array Slot} (hf : f_met_51 t0 I A = some o) (hM : mH D cy ci h A0 s H locs I A) (hl : lv_has ls 5 []) : W p l e ({ frames := 1, cells := 0, slots := 0, locals := 24 } : Room) s m args below meth c H locs 0 0 Q (F0 m 51 ls [.int t0]) := by
  obtain ⟨hx, hb, hml, hown, hts⟩ := id X
  unfold f_met_51 at hf
  cases hf
  exact hret H locs _ ls hM rfl dX12_met_51
noncomputable def f_met_35 (x4 : Int32) (I : Nat → Int32) (A : Nat → Nat → Int32) : Option (Int32 × MS) :=
  m_if (0 ≤ x4) (
  m_chk (¬ (x4 < 0 ∨ 64 ≤ (x4).toNatClampNeg)) (
  m_bnd (A 24 (x4).toNatClampNeg) (fun v1 =>
  f_met_51 v1 I A))
  ) (
  f_met_51 (0 : Int32) I A
  )

set_option maxRecDepth 100000 in
set_option maxHeartbeats 4000000 in
theorem w_met_35 {p : Program} {l : Launch} {e : Env} {s : State} {m : MethodId} {args : Array Value} {below : List Frame} {meth : Method} {c : Code} {Q : State → Prop} {D : va_G} {cy ci : ClassId} {h : Nat → Nat} {A0 : Nat → Prop} {o : Int32 × MS} (X : CallFix p m c cX12_met 5 s args wsX12_met RX12) (hret : mRi p l e ({ frames := 1, cells := 0, slots := 0, locals := 24 } : Room) s m args below meth c Q cX12_met D cy ci h A0 .int o) {x4 : Int32} {I : Nat → Int32} {A : Nat → Nat → Int32} {H : Heap} {locs : List Loc} {ls : Array Slot} (hf : f_met_35 x4 I A = some o) (hM : mH D cy ci h A0 s H locs I A) (hl : lv_has ls 5 [(0, .ref (h 0)), (4, .int x4)]) : W p l e ({ frames := 1, cells := 0, slots := 0, locals := 24 } : Room) s m args below meth c H locs 0 0 Q (F0 m 35 ls []) := by
  obtain ⟨hx, hb, hml, hown, hts⟩ := id X
  unfold f_met_35 at hf
  refine lv_iload hx hb dX12_met_35 (lv_at hl 1 rfl) ?_
  refine lv_if_ge (tgt := 44) hx hb dX12_met_37 (by decide) (fun cc1 => ?_) (fun cc1 => ?_)
  · replace hf := m_ifT hf cc1
    refine lv_aload_n hx hb dX12_met_44 rfl (lv_at hl 0 rfl) ?_
    refine m_get (v := .ref (h 24)) X hw_met hM 24 (by decide) fl_met_24 rfl dX12_met_45 ?_
    refine lv_iload hx hb dX12_met_48 (lv_at hl 1 rfl) ?_
    obtain ⟨cd, hf⟩ := m_chkE hf
    refine m_iald X hM 24 20 64 rfl cd dX12_met_50 ?_
    clear cd
    obtain ⟨v1, ev, hf⟩ := m_bndE hf
    refine m_top ev ?_
    clear ev
    exact w_met_51 X hret hf hM (lv_sub hl [] rfl)
  · replace hf := m_ifF hf cc1
    refine lv_iconst (v := (0 : Int32)) hx hb dX12_met_40 (by decide) ?_
    refine lv_goto (tgt := 51) hx hb dX12_met_41 (by decide) ?_
    exact w_met_51 X hret hf hM (lv_sub hl [] rfl)
noncomputable def f_met_8s (self8 : Int32 → Int32 → Int32 → (Nat → Int32) → (Nat → Nat → Int32) → Option (Int32 × MS)) (x2 : Int32) (x3 : Int32) (x4 : Int32) (I : Nat → Int32) (A : Nat → Nat → Int32) : Option (Int32 × MS) :=
  m_if (x4 < 0) (
  f_met_35 x4 I A
  ) (
  m_chk (¬ (x4 < 0 ∨ 64 ≤ (x4).toNatClampNeg)) (
  m_bnd (A 24 (x4).toNatClampNeg) (fun v1 =>
  m_if (v1 = 0) (
  m_cl (f_step x4 x2 x3 I A) (fun r2 Ic2 Ac2 =>
  self8 x2 x3 r2 Ic2 Ac2)
  ) (
  f_met_35 x4 I A
  )))
  )

set_option maxRecDepth 100000 in
set_option maxHeartbeats 4000000 in
theorem ws_met_8 {p : Program} {l : Launch} {e : Env} {s : State} {m : MethodId} {args : Array Value} {below : List Frame} {meth : Method} {c : Code} {Q : State → Prop} {D : va_G} {cy ci : ClassId} {h : Nat → Nat} {A0 : Nat → Prop} {o : Int32 × MS} (X : CallFix p m c cX12_met 5 s args wsX12_met RX12) (hret : mRi p l e ({ frames := 1, cells := 0, slots := 0, locals := 24 } : Room) s m args below meth c Q cX12_met D cy ci h A0 .int o) {self8 : Int32 → Int32 → Int32 → (Nat → Int32) → (Nat → Nat → Int32) → Option (Int32 × MS)} (hself8 : ∀ (x2 : Int32) (x3 : Int32) (x4 : Int32) (I : Nat → Int32) (A : Nat → Nat → Int32) (H : Heap) (locs : List Loc) (ls : Array Slot), self8 x2 x3 x4 I A = some o → mH D cy ci h A0 s H locs I A → lv_has ls 5 [(0, .ref (h 0)), (2, .int x2), (3, .int x3), (4, .int x4)] → W p l e ({ frames := 1, cells := 0, slots := 0, locals := 24 } : Room) s m args below meth c H locs 0 0 Q (F0 m 8 ls [])) {x2 : Int32} {x3 : Int32} {x4 : Int32} {I : Nat → Int32} {A : Nat → Nat → Int32} {H : Heap} {locs : List Loc} {ls : Array Slot} (hf : f_met_8s self8 x2 x3 x4 I A = some o) (hM : mH D cy ci h A0 s H locs I A) (hl : lv_has ls 5 [(0, .ref (h 0)), (2, .int x2), (3, .int x3), (4, .int x4)]) : W p l e ({ frames := 1, cells := 0, slots := 0, locals := 24 } : Room) s m args below meth c H locs 0 0 Q (F0 m 8 ls []) := by
  obtain ⟨hx, hb, hml, hown, hts⟩ := id X
  unfold f_met_8s at hf
  refine lv_iload hx hb dX12_met_8 (lv_at hl 3 rfl) ?_
  refine lv_if_lt (tgt := 35) hx hb dX12_met_10 (by decide) (fun cc1 => ?_) (fun cc1 => ?_)
  · replace hf := m_ifT hf cc1
    exact w_met_35 X hret hf hM (lv_sub hl [0, 3] rfl)
  · replace hf := m_ifF hf cc1
    refine lv_aload_n hx hb dX12_met_13 rfl (lv_at hl 0 rfl) ?_
    refine m_get (v := .ref (h 24)) X hw_met hM 24 (by decide) fl_met_24 rfl dX12_met_14 ?_
    refine lv_iload hx hb dX12_met_17 (lv_at hl 3 rfl) ?_
    obtain ⟨cd, hf⟩ := m_chkE hf
    refine m_iald X hM 24 20 64 rfl cd dX12_met_19 ?_
    clear cd
    obtain ⟨v1, ev, hf⟩ := m_bndE hf
    refine m_top ev ?_
    clear ev
    refine lv_if_ne (tgt := 35) hx hb dX12_met_20 (by decide) (fun cc1 => ?_) (fun cc1 => ?_)
    · replace hf := m_ifF hf cc1
      exact w_met_35 X hret hf hM (lv_sub hl [0, 3] rfl)
    · replace hf := m_ifT hf cc1
      refine lv_iload hx hb dX12_met_23 (lv_at hl 3 rfl) ?_
      refine lv_iload_n hx hb dX12_met_25 rfl (lv_at hl 1 rfl) ?_
      refine lv_iload_n hx hb dX12_met_26 rfl (lv_at hl 2 rfl) ?_
      obtain ⟨o2, ho, hf⟩ := m_clE hf
      refine m_callSi X hM (c_step ho) gX12_met_X12_step rfl ⟨rfl, rfl⟩ hd_step ⟨Nat.le_of_ble_eq_true rfl, Nat.le_of_ble_eq_true rfl⟩ rfl hl.1 rfl (Nat.le_of_ble_eq_true rfl) dX12_met_27 (fun H locs hM => ?_)
      clear ho
      refine lv_istore (lv' := [(4, .int o2.1), (0, .ref (h 0)), (2, .int x2), (3, .int x3)]) hx hb dX12_met_30 hl (by decide) rfl (fun ls hl => ?_)
      refine lv_goto (tgt := 8) hx hb dX12_met_32 (by decide) ?_
      exact hself8 _ _ _ _ _ _ _ _ hf hM (lv_sub hl [1, 2, 3, 0] rfl)
noncomputable def f_met_8 : Nat → Int32 → Int32 → Int32 → (Nat → Int32) → (Nat → Nat → Int32) → Option (Int32 × MS)
  | 0 => fun _ _ _ _ _ => none
  | n + 1 => f_met_8s (f_met_8 n)
theorem w_met_8 {p : Program} {l : Launch} {e : Env} {s : State} {m : MethodId} {args : Array Value} {below : List Frame} {meth : Method} {c : Code} {Q : State → Prop} {D : va_G} {cy ci : ClassId} {h : Nat → Nat} {A0 : Nat → Prop} {o : Int32 × MS} (X : CallFix p m c cX12_met 5 s args wsX12_met RX12) (hret : mRi p l e ({ frames := 1, cells := 0, slots := 0, locals := 24 } : Room) s m args below meth c Q cX12_met D cy ci h A0 .int o) (n : Nat) : ∀ (x2 : Int32) (x3 : Int32) (x4 : Int32) (I : Nat → Int32) (A : Nat → Nat → Int32) (H : Heap) (locs : List Loc) (ls : Array Slot), f_met_8 n x2 x3 x4 I A = some o → mH D cy ci h A0 s H locs I A → lv_has ls 5 [(0, .ref (h 0)), (2, .int x2), (3, .int x3), (4, .int x4)] → W p l e ({ frames := 1, cells := 0, slots := 0, locals := 24 } : Room) s m args below meth c H locs 0 0 Q (F0 m 8 ls []) := by
  induction n with
  | zero => intro x2 x3 x4 I A H locs ls hf; cases hf
  | succ n ih => intro x2 x3 x4 I A H locs ls hf hM hl; exact ws_met_8 X hret (self8 := f_met_8 n) ih hf hM hl
noncomputable def f_met_0 (x1 : Int32) (x2 : Int32) (x3 : Int32) (I : Nat → Int32) (A : Nat → Nat → Int32) : Option (Int32 × MS) :=
  m_cl (f_step x1 x2 x3 I A) (fun r1 Ic1 Ac1 =>
  f_met_8 mFuel x2 x3 r1 Ic1 Ac1)

set_option maxRecDepth 100000 in
set_option maxHeartbeats 4000000 in
theorem w_met_0 {p : Program} {l : Launch} {e : Env} {s : State} {m : MethodId} {args : Array Value} {below : List Frame} {meth : Method} {c : Code} {Q : State → Prop} {D : va_G} {cy ci : ClassId} {h : Nat → Nat} {A0 : Nat → Prop} {o : Int32 × MS} (X : CallFix p m c cX12_met 5 s args wsX12_met RX12) (hret : mRi p l e ({ frames := 1, cells := 0, slots := 0, locals := 24 } : Room) s m args below meth c Q cX12_met D cy ci h A0 .int o) {x1 : Int32} {x2 : Int32} {x3 : Int32} {I : Nat → Int32} {A : Nat → Nat → Int32} {H : Heap} {locs : List Loc} {ls : Array Slot} (hf : f_met_0 x1 x2 x3 I A = some o) (hM : mH D cy ci h A0 s H locs I A) (hl : lv_has ls 5 [(0, .ref (h 0)), (1, .int x1), (2, .int x2), (3, .int x3)]) : W p l e ({ frames := 1, cells := 0, slots := 0, locals := 24 } : Room) s m args below meth c H locs 0 0 Q (F0 m 0 ls []) := by
  obtain ⟨hx, hb, hml, hown, hts⟩ := id X
  unfold f_met_0 at hf
  refine lv_iload_n hx hb dX12_met_0 rfl (lv_at hl 1 rfl) ?_
  refine lv_iload_n hx hb dX12_met_1 rfl (lv_at hl 2 rfl) ?_
  refine lv_iload_n hx hb dX12_met_2 rfl (lv_at hl 3 rfl) ?_
  obtain ⟨o1, ho, hf⟩ := m_clE hf
  refine m_callSi X hM (c_step ho) gX12_met_X12_step rfl ⟨rfl, rfl⟩ hd_step ⟨Nat.le_of_ble_eq_true rfl, Nat.le_of_ble_eq_true rfl⟩ rfl hl.1 rfl (Nat.le_of_ble_eq_true rfl) dX12_met_3 (fun H locs hM => ?_)
  clear ho
  refine lv_istore (lv' := [(4, .int o1.1), (0, .ref (h 0)), (1, .int x1), (2, .int x2), (3, .int x3)]) hx hb dX12_met_6 hl (by decide) rfl (fun ls hl => ?_)
  exact w_met_8 X hret _ _ _ _ _ _ _ _ _ hf hM (lv_sub hl [1, 3, 4, 0] rfl)
noncomputable def f_met (x1 : Int32) (x2 : Int32) (x3 : Int32) (I : Nat → Int32) (A : Nat → Nat → Int32) : Option (Int32 × MS) := f_met_0 x1 x2 x3 I A
theorem c_met {l : Launch} {D : va_G} {cy ci : ClassId} {h : Nat → Nat} {x1 : Int32} {x2 : Int32} {x3 : Int32} {I : Nat → Int32} {A : Nat → Nat → Int32} {o : Int32 × MS} (hf : f_met x1 x2 x3 I A = some o) : mMi l yX12_met wsX12_met ({ frames := 1, cells := 0, slots := 0, locals := 24 } : Room) [.ref (h 0), .int x1, .int x2, .int x3] D cy ci h I A o :=
  m_entryI (cc := cX12_met) (maxL := 5) (by decide) rfl rfl (Nat.le_of_ble_eq_true rfl) (fun p e s m args below meth c A0 Q H locs ls X hret hM hl => w_met_0 X hret hf hM (lv_sub hl [0, 1, 2, 3] rfl))
theorem hd_isAttacked : yX12_isAttacked.cls = RX12 ∧ yX12_isAttacked.cls ≠ "java/lang/invoke/MethodHandle" ∧ yX12_isAttacked.cls ≠ "java/lang/invoke/VarHandle" ∧ (parseMethodDescriptor yX12_isAttacked.desc).map (fun d => d.parameters.length) = some 2 := by decide +kernel
noncomputable def f_isAttacked_217 (self61 : Int32 → Int32 → Int32 → Int32 → (Nat → Int32) → (Nat → Nat → Int32) → Option (Int32 × MS)) (self71 : Int32 → Int32 → Int32 → Int32 → Int32 → (Nat → Int32) → (Nat → Nat → Int32) → Option (Int32 × MS)) (x1 : Int32) (x3 : Int32) (x5 : Int32) (x6 : Int32) (x7 : Int32) (I : Nat → Int32) (A : Nat → Nat → Int32) : Option (Int32 × MS) :=
  m_bnd (x7 + (1 : Int32)) (fun v1 =>
  self71 x1 x3 x5 x6 v1 I A)

set_option maxRecDepth 100000 in
set_option maxHeartbeats 4000000 in
theorem w_isAttacked_217 {p : Program} {l : Launch} {e : Env} {s : State} {m : MethodId} {args : Array Value} {below : List Frame} {meth : Method} {c : Code} {Q : State → Prop} {D : va_G} {cy ci : ClassId} {h : Nat → Nat} {A0 : Nat → Prop} {o : Int32 × MS} (X : CallFix p m c cX12_isAttacked 10 s args wsX12_isAttacked RX12) (hret : mRi p l e ({ frames := 2, cells := 0, slots := 0, locals := 48 } : Room) s m args below meth c Q cX12_isAttacked D cy ci h A0 .boolean o) {self61 : Int32 → Int32 → Int32 → Int32 → (Nat → Int32) → (Nat → Nat → Int32) → Option (Int32 × MS)} (hself61 : ∀ (x1 : Int32) (x3 : Int32) (x5 : Int32) (x6 : Int32) (I : Nat → Int32) (A : Nat → Nat → Int32) (H : Heap) (locs : List Loc) (ls : Array Slot), self61 x1 x3 x5 x6 I A = some o → mH D cy ci h A0 s H locs I A → lv_has ls 10 [(0, .ref (h 0)), (1, .int x1), (3, .int x3), (5, .int x5), (6, .int x6)] → W p l e ({ frames := 2, cells := 0, slots := 0, locals := 48 } : Room) s m args below meth c H locs 0 0 Q (F0 m 61 ls [])) {self71 : Int32 → Int32 → Int32 → Int32 → Int32 → (Nat → Int32) → (Nat → Nat → Int32) → Option (Int32 × MS)} (hself71 : ∀ (x1 : Int32) (x3 : Int32) (x5 : Int32) (x6 : Int32) (x7 : Int32) (I : Nat → Int32) (A : Nat → Nat → Int32) (H : Heap) (locs : List Loc) (ls : Array Slot), self71 x1 x3 x5 x6 x7 I A = some o → mH D cy ci h A0 s H locs I A → lv_has ls 10 [(0, .ref (h 0)), (1, .int x1), (3, .int x3), (5, .int x5), (6, .int x6), (7, .int x7)] → W p l e ({ frames := 2, cells := 0, slots := 0, locals := 48 } : Room) s m args below meth c H locs 0 0 Q (F0 m 71 ls [])) {x1 : Int32} {x3 : Int32} {x5 : Int32} {x6 : Int32} {x7 : Int32} {I : Nat → Int32} {A : Nat → Nat → Int32} {H : Heap} {locs : List Loc} {ls : Array Slot} (hf : f_isAttacked_217 self61 self71 x1 x3 x5 x6 x7 I A = some o) (hM : mH D cy ci h A0 s H locs I A) (hl : lv_has ls 10 [(0, .ref (h 0)), (1, .int x1), (3, .int x3), (5, .int x5), (6, .int x6), (7, .int x7)]) : W p l e ({ frames := 2, cells := 0, slots := 0, locals := 48 } : Room) s m args below meth c H locs 0 0 Q (F0 m 217 ls []) := by
  obtain ⟨hx, hb, hml, hown, hts⟩ := id X
  unfold f_isAttacked_217 at hf
  obtain ⟨v1, ev, hf⟩ := m_bndE hf
  refine lv_iinc (v := v1) (lv' := [(7, .int v1), (0, .ref (h 0)), (1, .int x1), (3, .int x3), (5, .int x5), (6, .int x6)]) hx hb dX12_isAttacked_217 hl (k := 5) rfl (by rw [ev]; rfl) (by decide) rfl (fun ls hl => ?_)
  clear ev
  refine lv_goto (tgt := 71) hx hb dX12_isAttacked_220 (by decide) ?_
  exact hself71 _ _ _ _ _ _ _ _ _ _ hf hM (lv_sub hl [1, 2, 3, 4, 5, 0] rfl)
noncomputable def f_isAttacked_215 (self61 : Int32 → Int32 → Int32 → Int32 → (Nat → Int32) → (Nat → Nat → Int32) → Option (Int32 × MS)) (self71 : Int32 → Int32 → Int32 → Int32 → Int32 → (Nat → Int32) → (Nat → Nat → Int32) → Option (Int32 × MS)) (x1 : Int32) (x3 : Int32) (x6 : Int32) (x7 : Int32) (t0 : Int32) (I : Nat → Int32) (A : Nat → Nat → Int32) : Option (Int32 × MS) :=
  f_isAttacked_217 self61 self71 x1 x3 t0 x6 x7 I A

set_option maxRecDepth 100000 in
set_option maxHeartbeats 4000000 in
theorem w_isAttacked_215 {p : Program} {l : Launch} {e : Env} {s : State} {m : MethodId} {args : Array Value} {below : List Frame} {meth : Method} {c : Code} {Q : State → Prop} {D : va_G} {cy ci : ClassId} {h : Nat → Nat} {A0 : Nat → Prop} {o : Int32 × MS} (X : CallFix p m c cX12_isAttacked 10 s args wsX12_isAttacked RX12) (hret : mRi p l e ({ frames := 2, cells := 0, slots := 0, locals := 48 } : Room) s m args below meth c Q cX12_isAttacked D cy ci h A0 .boolean o) {self61 : Int32 → Int32 → Int32 → Int32 → (Nat → Int32) → (Nat → Nat → Int32) → Option (Int32 × MS)} (hself61 : ∀ (x1 : Int32) (x3 : Int32) (x5 : Int32) (x6 : Int32) (I : Nat → Int32) (A : Nat → Nat → Int32) (H : Heap) (locs : List Loc) (ls : Array Slot), self61 x1 x3 x5 x6 I A = some o → mH D cy ci h A0 s H locs I A → lv_has ls 10 [(0, .ref (h 0)), (1, .int x1), (3, .int x3), (5, .int x5), (6, .int x6)] → W p l e ({ frames := 2, cells := 0, slots := 0, locals := 48 } : Room) s m args below meth c H locs 0 0 Q (F0 m 61 ls [])) {self71 : Int32 → Int32 → Int32 → Int32 → Int32 → (Nat → Int32) → (Nat → Nat → Int32) → Option (Int32 × MS)} (hself71 : ∀ (x1 : Int32) (x3 : Int32) (x5 : Int32) (x6 : Int32) (x7 : Int32) (I : Nat → Int32) (A : Nat → Nat → Int32) (H : Heap) (locs : List Loc) (ls : Array Slot), self71 x1 x3 x5 x6 x7 I A = some o → mH D cy ci h A0 s H locs I A → lv_has ls 10 [(0, .ref (h 0)), (1, .int x1), (3, .int x3), (5, .int x5), (6, .int x6), (7, .int x7)] → W p l e ({ frames := 2, cells := 0, slots := 0, locals := 48 } : Room) s m args below meth c H locs 0 0 Q (F0 m 71 ls [])) {x1 : Int32} {x3 : Int32} {x6 : Int32} {x7 : Int32} {t0 : Int32} {I : Nat → Int32} {A : Nat → Nat → Int32} {H : Heap} {locs : List Loc} {ls : Array Slot} (hf : f_isAttacked_215 self61 self71 x1 x3 x6 x7 t0 I A = some o) (hM : mH D cy ci h A0 s H locs I A) (hl : lv_has ls 10 [(0, .ref (h 0)), (1, .int x1), (3, .int x3), (6, .int x6), (7, .int x7)]) : W p l e ({ frames := 2, cells := 0, slots := 0, locals := 48 } : Room) s m args below meth c H locs 0 0 Q (F0 m 215 ls [.int t0]) := by
  obtain ⟨hx, hb, hml, hown, hts⟩ := id X
  unfold f_isAttacked_215 at hf
  refine lv_istore (lv' := [(5, .int t0), (0, .ref (h 0)), (1, .int x1), (3, .int x3), (6, .int x6), (7, .int x7)]) hx hb dX12_isAttacked_215 hl (by decide) rfl (fun ls hl => ?_)
  exact w_isAttacked_217 X hret hself61 hself71 hf hM (lv_sub hl [1, 2, 3, 0, 4, 5] rfl)
noncomputable def f_isAttacked_210 (self61 : Int32 → Int32 → Int32 → Int32 → (Nat → Int32) → (Nat → Nat → Int32) → Option (Int32 × MS)) (self71 : Int32 → Int32 → Int32 → Int32 → Int32 → (Nat → Int32) → (Nat → Nat → Int32) → Option (Int32 × MS)) (x1 : Int32) (x3 : Int32) (x6 : Int32) (x7 : Int32) (I : Nat → Int32) (A : Nat → Nat → Int32) : Option (Int32 × MS) :=
  f_isAttacked_215 self61 self71 x1 x3 x6 x7 (1 : Int32) I A

set_option maxRecDepth 100000 in
set_option maxHeartbeats 4000000 in
theorem w_isAttacked_210 {p : Program} {l : Launch} {e : Env} {s : State} {m : MethodId} {args : Array Value} {below : List Frame} {meth : Method} {c : Code} {Q : State → Prop} {D : va_G} {cy ci : ClassId} {h : Nat → Nat} {A0 : Nat → Prop} {o : Int32 × MS} (X : CallFix p m c cX12_isAttacked 10 s args wsX12_isAttacked RX12) (hret : mRi p l e ({ frames := 2, cells := 0, slots := 0, locals := 48 } : Room) s m args below meth c Q cX12_isAttacked D cy ci h A0 .boolean o) {self61 : Int32 → Int32 → Int32 → Int32 → (Nat → Int32) → (Nat → Nat → Int32) → Option (Int32 × MS)} (hself61 : ∀ (x1 : Int32) (x3 : Int32) (x5 : Int32) (x6 : Int32) (I : Nat → Int32) (A : Nat → Nat → Int32) (H : Heap) (locs : List Loc) (ls : Array Slot), self61 x1 x3 x5 x6 I A = some o → mH D cy ci h A0 s H locs I A → lv_has ls 10 [(0, .ref (h 0)), (1, .int x1), (3, .int x3), (5, .int x5), (6, .int x6)] → W p l e ({ frames := 2, cells := 0, slots := 0, locals := 48 } : Room) s m args below meth c H locs 0 0 Q (F0 m 61 ls [])) {self71 : Int32 → Int32 → Int32 → Int32 → Int32 → (Nat → Int32) → (Nat → Nat → Int32) → Option (Int32 × MS)} (hself71 : ∀ (x1 : Int32) (x3 : Int32) (x5 : Int32) (x6 : Int32) (x7 : Int32) (I : Nat → Int32) (A : Nat → Nat → Int32) (H : Heap) (locs : List Loc) (ls : Array Slot), self71 x1 x3 x5 x6 x7 I A = some o → mH D cy ci h A0 s H locs I A → lv_has ls 10 [(0, .ref (h 0)), (1, .int x1), (3, .int x3), (5, .int x5), (6, .int x6), (7, .int x7)] → W p l e ({ frames := 2, cells := 0, slots := 0, locals := 48 } : Room) s m args below meth c H locs 0 0 Q (F0 m 71 ls [])) {x1 : Int32} {x3 : Int32} {x6 : Int32} {x7 : Int32} {I : Nat → Int32} {A : Nat → Nat → Int32} {H : Heap} {locs : List Loc} {ls : Array Slot} (hf : f_isAttacked_210 self61 self71 x1 x3 x6 x7 I A = some o) (hM : mH D cy ci h A0 s H locs I A) (hl : lv_has ls 10 [(0, .ref (h 0)), (1, .int x1), (3, .int x3), (6, .int x6), (7, .int x7)]) : W p l e ({ frames := 2, cells := 0, slots := 0, locals := 48 } : Room) s m args below meth c H locs 0 0 Q (F0 m 210 ls []) := by
  obtain ⟨hx, hb, hml, hown, hts⟩ := id X
  unfold f_isAttacked_210 at hf
  refine lv_iconst (v := (1 : Int32)) hx hb dX12_isAttacked_210 (by decide) ?_
  refine lv_goto (tgt := 215) hx hb dX12_isAttacked_211 (by decide) ?_
  exact w_isAttacked_215 X hret hself61 hself71 hf hM (lv_sub hl [0, 1, 2, 3, 4] rfl)
noncomputable def f_isAttacked_205 (self61 : Int32 → Int32 → Int32 → Int32 → (Nat → Int32) → (Nat → Nat → Int32) → Option (Int32 × MS)) (self71 : Int32 → Int32 → Int32 → Int32 → Int32 → (Nat → Int32) → (Nat → Nat → Int32) → Option (Int32 × MS)) (x1 : Int32) (x3 : Int32) (x6 : Int32) (x7 : Int32) (t0 : Int32) (t1 : Int32) (I : Nat → Int32) (A : Nat → Nat → Int32) : Option (Int32 × MS) :=
  m_bnd (t0 + x3) (fun v1 =>
  m_if (t1 = v1) (
  f_isAttacked_210 self61 self71 x1 x3 x6 x7 I A
  ) (
  f_isAttacked_215 self61 self71 x1 x3 x6 x7 (0 : Int32) I A
  ))

set_option maxRecDepth 100000 in
set_option maxHeartbeats 4000000 in
theorem w_isAttacked_205 {p : Program} {l : Launch} {e : Env} {s : State} {m : MethodId} {args : Array Value} {below : List Frame} {meth : Method} {c : Code} {Q : State → Prop} {D : va_G} {cy ci : ClassId} {h : Nat → Nat} {A0 : Nat → Prop} {o : Int32 × MS} (X : CallFix p m c cX12_isAttacked 10 s args wsX12_isAttacked RX12) (hret : mRi p l e ({ frames := 2, cells := 0, slots := 0, locals := 48 } : Room) s m args below meth c Q cX12_isAttacked D cy ci h A0 .boolean o) {self61 : Int32 → Int32 → Int32 → Int32 → (Nat → Int32) → (Nat → Nat → Int32) → Option (Int32 × MS)} (hself61 : ∀ (x1 : Int32) (x3 : Int32) (x5 : Int32) (x6 : Int32) (I : Nat → Int32) (A : Nat → Nat → Int32) (H : Heap) (locs : List Loc) (ls : Array Slot), self61 x1 x3 x5 x6 I A = some o → mH D cy ci h A0 s H locs I A → lv_has ls 10 [(0, .ref (h 0)), (1, .int x1), (3, .int x3), (5, .int x5), (6, .int x6)] → W p l e ({ frames := 2, cells := 0, slots := 0, locals := 48 } : Room) s m args below meth c H locs 0 0 Q (F0 m 61 ls [])) {self71 : Int32 → Int32 → Int32 → Int32 → Int32 → (Nat → Int32) → (Nat → Nat → Int32) → Option (Int32 × MS)} (hself71 : ∀ (x1 : Int32) (x3 : Int32) (x5 : Int32) (x6 : Int32) (x7 : Int32) (I : Nat → Int32) (A : Nat → Nat → Int32) (H : Heap) (locs : List Loc) (ls : Array Slot), self71 x1 x3 x5 x6 x7 I A = some o → mH D cy ci h A0 s H locs I A → lv_has ls 10 [(0, .ref (h 0)), (1, .int x1), (3, .int x3), (5, .int x5), (6, .int x6), (7, .int x7)] → W p l e ({ frames := 2, cells := 0, slots := 0, locals := 48 } : Room) s m args below meth c H locs 0 0 Q (F0 m 71 ls [])) {x1 : Int32} {x3 : Int32} {x6 : Int32} {x7 : Int32} {t0 : Int32} {t1 : Int32} {I : Nat → Int32} {A : Nat → Nat → Int32} {H : Heap} {locs : List Loc} {ls : Array Slot} (hf : f_isAttacked_205 self61 self71 x1 x3 x6 x7 t0 t1 I A = some o) (hM : mH D cy ci h A0 s H locs I A) (hl : lv_has ls 10 [(0, .ref (h 0)), (1, .int x1), (3, .int x3), (6, .int x6), (7, .int x7)]) : W p l e ({ frames := 2, cells := 0, slots := 0, locals := 48 } : Room) s m args below meth c H locs 0 0 Q (F0 m 205 ls [.int t0, .int t1]) := by
  obtain ⟨hx, hb, hml, hown, hts⟩ := id X
  unfold f_isAttacked_205 at hf
  refine lv_iload_n hx hb dX12_isAttacked_205 rfl (lv_at hl 2 rfl) ?_
  refine lv_iadd hx hb dX12_isAttacked_206 ?_
  obtain ⟨v1, ev, hf⟩ := m_bndE hf
  refine m_top ev ?_
  clear ev
  refine lv_icmp_ne (tgt := 214) hx hb dX12_isAttacked_207 (by decide) (fun cc1 => ?_) (fun cc1 => ?_)
  · replace hf := m_ifF hf cc1
    refine lv_iconst (v := (0 : Int32)) hx hb dX12_isAttacked_214 (by decide) ?_
    exact w_isAttacked_215 X hret hself61 hself71 hf hM (lv_sub hl [0, 1, 2, 3, 4] rfl)
  · replace hf := m_ifT hf cc1
    exact w_isAttacked_210 X hret hself61 hself71 hf hM (lv_sub hl [0, 1, 2, 3, 4] rfl)
noncomputable def f_isAttacked_168 (self61 : Int32 → Int32 → Int32 → Int32 → (Nat → Int32) → (Nat → Nat → Int32) → Option (Int32 × MS)) (self71 : Int32 → Int32 → Int32 → Int32 → Int32 → (Nat → Int32) → (Nat → Nat → Int32) → Option (Int32 × MS)) (x1 : Int32) (x3 : Int32) (x5 : Int32) (x6 : Int32) (x7 : Int32) (x8 : Int32) (I : Nat → Int32) (A : Nat → Nat → Int32) : Option (Int32 × MS) :=
  m_cl (f_met x1 x6 x7 I A) (fun r1 Ic1 Ac1 =>
  m_if (x5 = 0) (
  m_bnd ((5 : Int32) + x3) (fun v2 =>
  m_if (r1 = v2) (
  f_isAttacked_210 self61 self71 x1 x3 x6 x7 Ic1 Ac1
  ) (
  m_if (x8 = (1 : Int32)) (
  f_isAttacked_205 self61 self71 x1 x3 x6 x7 (4 : Int32) r1 Ic1 Ac1
  ) (
  f_isAttacked_205 self61 self71 x1 x3 x6 x7 (3 : Int32) r1 Ic1 Ac1
  )
  ))
  ) (
  f_isAttacked_210 self61 self71 x1 x3 x6 x7 Ic1 Ac1
  ))

set_option maxRecDepth 100000 in
set_option maxHeartbeats 4000000 in
theorem w_isAttacked_168 {p : Program} {l : Launch} {e : Env} {s : State} {m : MethodId} {args : Array Value} {below : List Frame} {meth : Method} {c : Code} {Q : State → Prop} {D : va_G} {cy ci : ClassId} {h : Nat → Nat} {A0 : Nat → Prop} {o : Int32 × MS} (X : CallFix p m c cX12_isAttacked 10 s args wsX12_isAttacked RX12) (hret : mRi p l e ({ frames := 2, cells := 0, slots := 0, locals := 48 } : Room) s m args below meth c Q cX12_isAttacked D cy ci h A0 .boolean o) {self61 : Int32 → Int32 → Int32 → Int32 → (Nat → Int32) → (Nat → Nat → Int32) → Option (Int32 × MS)} (hself61 : ∀ (x1 : Int32) (x3 : Int32) (x5 : Int32) (x6 : Int32) (I : Nat → Int32) (A : Nat → Nat → Int32) (H : Heap) (locs : List Loc) (ls : Array Slot), self61 x1 x3 x5 x6 I A = some o → mH D cy ci h A0 s H locs I A → lv_has ls 10 [(0, .ref (h 0)), (1, .int x1), (3, .int x3), (5, .int x5), (6, .int x6)] → W p l e ({ frames := 2, cells := 0, slots := 0, locals := 48 } : Room) s m args below meth c H locs 0 0 Q (F0 m 61 ls [])) {self71 : Int32 → Int32 → Int32 → Int32 → Int32 → (Nat → Int32) → (Nat → Nat → Int32) → Option (Int32 × MS)} (hself71 : ∀ (x1 : Int32) (x3 : Int32) (x5 : Int32) (x6 : Int32) (x7 : Int32) (I : Nat → Int32) (A : Nat → Nat → Int32) (H : Heap) (locs : List Loc) (ls : Array Slot), self71 x1 x3 x5 x6 x7 I A = some o → mH D cy ci h A0 s H locs I A → lv_has ls 10 [(0, .ref (h 0)), (1, .int x1), (3, .int x3), (5, .int x5), (6, .int x6), (7, .int x7)] → W p l e ({ frames := 2, cells := 0, slots := 0, locals := 48 } : Room) s m args below meth c H locs 0 0 Q (F0 m 71 ls [])) {x1 : Int32} {x3 : Int32} {x5 : Int32} {x6 : Int32} {x7 : Int32} {x8 : Int32} {I : Nat → Int32} {A : Nat → Nat → Int32} {H : Heap} {locs : List Loc} {ls : Array Slot} (hf : f_isAttacked_168 self61 self71 x1 x3 x5 x6 x7 x8 I A = some o) (hM : mH D cy ci h A0 s H locs I A) (hl : lv_has ls 10 [(0, .ref (h 0)), (1, .int x1), (3, .int x3), (5, .int x5), (6, .int x6), (7, .int x7), (8, .int x8)]) : W p l e ({ frames := 2, cells := 0, slots := 0, locals := 48 } : Room) s m args below meth c H locs 0 0 Q (F0 m 168 ls []) := by
  obtain ⟨hx, hb, hml, hown, hts⟩ := id X
  unfold f_isAttacked_168 at hf
  refine lv_aload_n hx hb dX12_isAttacked_168 rfl (lv_at hl 0 rfl) ?_
  refine lv_iload_n hx hb dX12_isAttacked_169 rfl (lv_at hl 1 rfl) ?_
  refine lv_iload hx hb dX12_isAttacked_170 (lv_at hl 4 rfl) ?_
  refine lv_iload hx hb dX12_isAttacked_172 (lv_at hl 5 rfl) ?_
  obtain ⟨o1, ho, hf⟩ := m_clE hf
  refine m_callVi X hM (c_met ho) gX12_isAttacked_X12_met rfl ⟨rfl, rfl⟩ hd_met ⟨Nat.le_of_ble_eq_true rfl, Nat.le_of_ble_eq_true rfl⟩ rfl hl.1 rfl (Nat.le_of_ble_eq_true rfl) dX12_isAttacked_174 (fun H locs hM => ?_)
  clear ho
  refine lv_istore (lv' := [(9, .int o1.1), (0, .ref (h 0)), (1, .int x1), (3, .int x3), (5, .int x5), (6, .int x6), (7, .int x7), (8, .int x8)]) hx hb dX12_isAttacked_177 hl (by decide) rfl (fun ls hl => ?_)
  refine lv_iload hx hb dX12_isAttacked_179 (lv_at hl 4 rfl) ?_
  refine lv_if_ne (tgt := 210) hx hb dX12_isAttacked_181 (by decide) (fun cc1 => ?_) (fun cc1 => ?_)
  · replace hf := m_ifF hf cc1
    exact w_isAttacked_210 X hret hself61 hself71 hf hM (lv_sub hl [1, 2, 3, 5, 6] rfl)
  · replace hf := m_ifT hf cc1
    refine lv_iload hx hb dX12_isAttacked_184 (lv_at hl 0 rfl) ?_
    refine lv_iconst (v := (5 : Int32)) hx hb dX12_isAttacked_186 (by decide) ?_
    refine lv_iload_n hx hb dX12_isAttacked_187 rfl (lv_at hl 3 rfl) ?_
    refine lv_iadd hx hb dX12_isAttacked_188 ?_
    obtain ⟨v2, ev, hf⟩ := m_bndE hf
    refine m_top ev ?_
    clear ev
    refine lv_icmp_eq (tgt := 210) hx hb dX12_isAttacked_189 (by decide) (fun cc1 => ?_) (fun cc1 => ?_)
    · replace hf := m_ifT hf cc1
      exact w_isAttacked_210 X hret hself61 hself71 hf hM (lv_sub hl [1, 2, 3, 5, 6] rfl)
    · replace hf := m_ifF hf cc1
      refine lv_iload hx hb dX12_isAttacked_192 (lv_at hl 0 rfl) ?_
      refine lv_iload hx hb dX12_isAttacked_194 (lv_at hl 7 rfl) ?_
      refine lv_iconst (v := (1 : Int32)) hx hb dX12_isAttacked_196 (by decide) ?_
      refine lv_icmp_ne (tgt := 204) hx hb dX12_isAttacked_197 (by decide) (fun cc1 => ?_) (fun cc1 => ?_)
      · replace hf := m_ifF hf cc1
        refine lv_iconst (v := (3 : Int32)) hx hb dX12_isAttacked_204 (by decide) ?_
        exact w_isAttacked_205 X hret hself61 hself71 hf hM (lv_sub hl [1, 2, 3, 5, 6] rfl)
      · replace hf := m_ifT hf cc1
        refine lv_iconst (v := (4 : Int32)) hx hb dX12_isAttacked_200 (by decide) ?_
        refine lv_goto (tgt := 205) hx hb dX12_isAttacked_201 (by decide) ?_
        exact w_isAttacked_205 X hret hself61 hself71 hf hM (lv_sub hl [1, 2, 3, 5, 6] rfl)
noncomputable def f_isAttacked_154 (self61 : Int32 → Int32 → Int32 → Int32 → (Nat → Int32) → (Nat → Nat → Int32) → Option (Int32 × MS)) (self71 : Int32 → Int32 → Int32 → Int32 → Int32 → (Nat → Int32) → (Nat → Nat → Int32) → Option (Int32 × MS)) (x1 : Int32) (x3 : Int32) (x6 : Int32) (x7 : Int32) (x8 : Int32) (t0 : Int32) (I : Nat → Int32) (A : Nat → Nat → Int32) : Option (Int32 × MS) :=
  m_if (x8 = (1 : Int32)) (
  f_isAttacked_168 self61 self71 x1 x3 t0 x6 x7 x8 I A
  ) (
  m_if (x8 = (2 : Int32)) (
  f_isAttacked_168 self61 self71 x1 x3 t0 x6 x7 x8 I A
  ) (
  f_isAttacked_217 self61 self71 x1 x3 t0 x6 x7 I A
  )
  )

set_option maxRecDepth 100000 in
set_option maxHeartbeats 4000000 in
theorem w_isAttacked_154 {p : Program} {l : Launch} {e : Env} {s : State} {m : MethodId} {args : Array Value} {below : List Frame} {meth : Method} {c : Code} {Q : State → Prop} {D : va_G} {cy ci : ClassId} {h : Nat → Nat} {A0 : Nat → Prop} {o : Int32 × MS} (X : CallFix p m c cX12_isAttacked 10 s args wsX12_isAttacked RX12) (hret : mRi p l e ({ frames := 2, cells := 0, slots := 0, locals := 48 } : Room) s m args below meth c Q cX12_isAttacked D cy ci h A0 .boolean o) {self61 : Int32 → Int32 → Int32 → Int32 → (Nat → Int32) → (Nat → Nat → Int32) → Option (Int32 × MS)} (hself61 : ∀ (x1 : Int32) (x3 : Int32) (x5 : Int32) (x6 : Int32) (I : Nat → Int32) (A : Nat → Nat → Int32) (H : Heap) (locs : List Loc) (ls : Array Slot), self61 x1 x3 x5 x6 I A = some o → mH D cy ci h A0 s H locs I A → lv_has ls 10 [(0, .ref (h 0)), (1, .int x1), (3, .int x3), (5, .int x5), (6, .int x6)] → W p l e ({ frames := 2, cells := 0, slots := 0, locals := 48 } : Room) s m args below meth c H locs 0 0 Q (F0 m 61 ls [])) {self71 : Int32 → Int32 → Int32 → Int32 → Int32 → (Nat → Int32) → (Nat → Nat → Int32) → Option (Int32 × MS)} (hself71 : ∀ (x1 : Int32) (x3 : Int32) (x5 : Int32) (x6 : Int32) (x7 : Int32) (I : Nat → Int32) (A : Nat → Nat → Int32) (H : Heap) (locs : List Loc) (ls : Array Slot), self71 x1 x3 x5 x6 x7 I A = some o → mH D cy ci h A0 s H locs I A → lv_has ls 10 [(0, .ref (h 0)), (1, .int x1), (3, .int x3), (5, .int x5), (6, .int x6), (7, .int x7)] → W p l e ({ frames := 2, cells := 0, slots := 0, locals := 48 } : Room) s m args below meth c H locs 0 0 Q (F0 m 71 ls [])) {x1 : Int32} {x3 : Int32} {x6 : Int32} {x7 : Int32} {x8 : Int32} {t0 : Int32} {I : Nat → Int32} {A : Nat → Nat → Int32} {H : Heap} {locs : List Loc} {ls : Array Slot} (hf : f_isAttacked_154 self61 self71 x1 x3 x6 x7 x8 t0 I A = some o) (hM : mH D cy ci h A0 s H locs I A) (hl : lv_has ls 10 [(0, .ref (h 0)), (1, .int x1), (3, .int x3), (6, .int x6), (7, .int x7), (8, .int x8)]) : W p l e ({ frames := 2, cells := 0, slots := 0, locals := 48 } : Room) s m args below meth c H locs 0 0 Q (F0 m 154 ls [.int t0]) := by
  obtain ⟨hx, hb, hml, hown, hts⟩ := id X
  unfold f_isAttacked_154 at hf
  refine lv_istore (lv' := [(5, .int t0), (0, .ref (h 0)), (1, .int x1), (3, .int x3), (6, .int x6), (7, .int x7), (8, .int x8)]) hx hb dX12_isAttacked_154 hl (by decide) rfl (fun ls hl => ?_)
  refine lv_iload hx hb dX12_isAttacked_156 (lv_at hl 6 rfl) ?_
  refine lv_iconst (v := (1 : Int32)) hx hb dX12_isAttacked_158 (by decide) ?_
  refine lv_icmp_eq (tgt := 168) hx hb dX12_isAttacked_159 (by decide) (fun cc1 => ?_) (fun cc1 => ?_)
  · replace hf := m_ifT hf cc1
    exact w_isAttacked_168 X hret hself61 hself71 hf hM (lv_sub hl [1, 2, 3, 0, 4, 5, 6] rfl)
  · replace hf := m_ifF hf cc1
    refine lv_iload hx hb dX12_isAttacked_162 (lv_at hl 6 rfl) ?_
    refine lv_iconst (v := (2 : Int32)) hx hb dX12_isAttacked_164 (by decide) ?_
    refine lv_icmp_ne (tgt := 217) hx hb dX12_isAttacked_165 (by decide) (fun cc1 => ?_) (fun cc1 => ?_)
    · replace hf := m_ifF hf cc1
      exact w_isAttacked_217 X hret hself61 hself71 hf hM (lv_sub hl [1, 2, 3, 0, 4, 5] rfl)
    · replace hf := m_ifT hf cc1
      exact w_isAttacked_168 X hret hself61 hself71 hf hM (lv_sub hl [1, 2, 3, 0, 4, 5, 6] rfl)
noncomputable def f_isAttacked_149 (self61 : Int32 → Int32 → Int32 → Int32 → (Nat → Int32) → (Nat → Nat → Int32) → Option (Int32 × MS)) (self71 : Int32 → Int32 → Int32 → Int32 → Int32 → (Nat → Int32) → (Nat → Nat → Int32) → Option (Int32 × MS)) (x1 : Int32) (x3 : Int32) (x6 : Int32) (x7 : Int32) (x8 : Int32) (I : Nat → Int32) (A : Nat → Nat → Int32) : Option (Int32 × MS) :=
  f_isAttacked_154 self61 self71 x1 x3 x6 x7 x8 (1 : Int32) I A

set_option maxRecDepth 100000 in
set_option maxHeartbeats 4000000 in
theorem w_isAttacked_149 {p : Program} {l : Launch} {e : Env} {s : State} {m : MethodId} {args : Array Value} {below : List Frame} {meth : Method} {c : Code} {Q : State → Prop} {D : va_G} {cy ci : ClassId} {h : Nat → Nat} {A0 : Nat → Prop} {o : Int32 × MS} (X : CallFix p m c cX12_isAttacked 10 s args wsX12_isAttacked RX12) (hret : mRi p l e ({ frames := 2, cells := 0, slots := 0, locals := 48 } : Room) s m args below meth c Q cX12_isAttacked D cy ci h A0 .boolean o) {self61 : Int32 → Int32 → Int32 → Int32 → (Nat → Int32) → (Nat → Nat → Int32) → Option (Int32 × MS)} (hself61 : ∀ (x1 : Int32) (x3 : Int32) (x5 : Int32) (x6 : Int32) (I : Nat → Int32) (A : Nat → Nat → Int32) (H : Heap) (locs : List Loc) (ls : Array Slot), self61 x1 x3 x5 x6 I A = some o → mH D cy ci h A0 s H locs I A → lv_has ls 10 [(0, .ref (h 0)), (1, .int x1), (3, .int x3), (5, .int x5), (6, .int x6)] → W p l e ({ frames := 2, cells := 0, slots := 0, locals := 48 } : Room) s m args below meth c H locs 0 0 Q (F0 m 61 ls [])) {self71 : Int32 → Int32 → Int32 → Int32 → Int32 → (Nat → Int32) → (Nat → Nat → Int32) → Option (Int32 × MS)} (hself71 : ∀ (x1 : Int32) (x3 : Int32) (x5 : Int32) (x6 : Int32) (x7 : Int32) (I : Nat → Int32) (A : Nat → Nat → Int32) (H : Heap) (locs : List Loc) (ls : Array Slot), self71 x1 x3 x5 x6 x7 I A = some o → mH D cy ci h A0 s H locs I A → lv_has ls 10 [(0, .ref (h 0)), (1, .int x1), (3, .int x3), (5, .int x5), (6, .int x6), (7, .int x7)] → W p l e ({ frames := 2, cells := 0, slots := 0, locals := 48 } : Room) s m args below meth c H locs 0 0 Q (F0 m 71 ls [])) {x1 : Int32} {x3 : Int32} {x6 : Int32} {x7 : Int32} {x8 : Int32} {I : Nat → Int32} {A : Nat → Nat → Int32} {H : Heap} {locs : List Loc} {ls : Array Slot} (hf : f_isAttacked_149 self61 self71 x1 x3 x6 x7 x8 I A = some o) (hM : mH D cy ci h A0 s H locs I A) (hl : lv_has ls 10 [(0, .ref (h 0)), (1, .int x1), (3, .int x3), (6, .int x6), (7, .int x7), (8, .int x8)]) : W p l e ({ frames := 2, cells := 0, slots := 0, locals := 48 } : Room) s m args below meth c H locs 0 0 Q (F0 m 149 ls []) := by
  obtain ⟨hx, hb, hml, hown, hts⟩ := id X
  unfold f_isAttacked_149 at hf
  refine lv_iconst (v := (1 : Int32)) hx hb dX12_isAttacked_149 (by decide) ?_
  refine lv_goto (tgt := 154) hx hb dX12_isAttacked_150 (by decide) ?_
  exact w_isAttacked_154 X hret hself61 hself71 hf hM (lv_sub hl [0, 1, 2, 3, 4, 5] rfl)
noncomputable def f_isAttacked_153 (self61 : Int32 → Int32 → Int32 → Int32 → (Nat → Int32) → (Nat → Nat → Int32) → Option (Int32 × MS)) (self71 : Int32 → Int32 → Int32 → Int32 → Int32 → (Nat → Int32) → (Nat → Nat → Int32) → Option (Int32 × MS)) (x1 : Int32) (x3 : Int32) (x6 : Int32) (x7 : Int32) (x8 : Int32) (I : Nat → Int32) (A : Nat → Nat → Int32) : Option (Int32 × MS) :=
  f_isAttacked_154 self61 self71 x1 x3 x6 x7 x8 (0 : Int32) I A

set_option maxRecDepth 100000 in
set_option maxHeartbeats 4000000 in
theorem w_isAttacked_153 {p : Program} {l : Launch} {e : Env} {s : State} {m : MethodId} {args : Array Value} {below : List Frame} {meth : Method} {c : Code} {Q : State → Prop} {D : va_G} {cy ci : ClassId} {h : Nat → Nat} {A0 : Nat → Prop} {o : Int32 × MS} (X : CallFix p m c cX12_isAttacked 10 s args wsX12_isAttacked RX12) (hret : mRi p l e ({ frames := 2, cells := 0, slots := 0, locals := 48 } : Room) s m args below meth c Q cX12_isAttacked D cy ci h A0 .boolean o) {self61 : Int32 → Int32 → Int32 → Int32 → (Nat → Int32) → (Nat → Nat → Int32) → Option (Int32 × MS)} (hself61 : ∀ (x1 : Int32) (x3 : Int32) (x5 : Int32) (x6 : Int32) (I : Nat → Int32) (A : Nat → Nat → Int32) (H : Heap) (locs : List Loc) (ls : Array Slot), self61 x1 x3 x5 x6 I A = some o → mH D cy ci h A0 s H locs I A → lv_has ls 10 [(0, .ref (h 0)), (1, .int x1), (3, .int x3), (5, .int x5), (6, .int x6)] → W p l e ({ frames := 2, cells := 0, slots := 0, locals := 48 } : Room) s m args below meth c H locs 0 0 Q (F0 m 61 ls [])) {self71 : Int32 → Int32 → Int32 → Int32 → Int32 → (Nat → Int32) → (Nat → Nat → Int32) → Option (Int32 × MS)} (hself71 : ∀ (x1 : Int32) (x3 : Int32) (x5 : Int32) (x6 : Int32) (x7 : Int32) (I : Nat → Int32) (A : Nat → Nat → Int32) (H : Heap) (locs : List Loc) (ls : Array Slot), self71 x1 x3 x5 x6 x7 I A = some o → mH D cy ci h A0 s H locs I A → lv_has ls 10 [(0, .ref (h 0)), (1, .int x1), (3, .int x3), (5, .int x5), (6, .int x6), (7, .int x7)] → W p l e ({ frames := 2, cells := 0, slots := 0, locals := 48 } : Room) s m args below meth c H locs 0 0 Q (F0 m 71 ls [])) {x1 : Int32} {x3 : Int32} {x6 : Int32} {x7 : Int32} {x8 : Int32} {I : Nat → Int32} {A : Nat → Nat → Int32} {H : Heap} {locs : List Loc} {ls : Array Slot} (hf : f_isAttacked_153 self61 self71 x1 x3 x6 x7 x8 I A = some o) (hM : mH D cy ci h A0 s H locs I A) (hl : lv_has ls 10 [(0, .ref (h 0)), (1, .int x1), (3, .int x3), (6, .int x6), (7, .int x7), (8, .int x8)]) : W p l e ({ frames := 2, cells := 0, slots := 0, locals := 48 } : Room) s m args below meth c H locs 0 0 Q (F0 m 153 ls []) := by
  obtain ⟨hx, hb, hml, hown, hts⟩ := id X
  unfold f_isAttacked_153 at hf
  refine lv_iconst (v := (0 : Int32)) hx hb dX12_isAttacked_153 (by decide) ?_
  exact w_isAttacked_154 X hret hself61 hself71 hf hM (lv_sub hl [0, 1, 2, 3, 4, 5] rfl)
noncomputable def f_isAttacked_119 (self61 : Int32 → Int32 → Int32 → Int32 → (Nat → Int32) → (Nat → Nat → Int32) → Option (Int32 × MS)) (self71 : Int32 → Int32 → Int32 → Int32 → Int32 → (Nat → Int32) → (Nat → Nat → Int32) → Option (Int32 × MS)) (x1 : Int32) (x3 : Int32) (x6 : Int32) (x7 : Int32) (x8 : Int32) (I : Nat → Int32) (A : Nat → Nat → Int32) : Option (Int32 × MS) :=
  m_if (x8 ≤ 0) (
  f_isAttacked_153 self61 self71 x1 x3 x6 x7 x8 I A
  ) (
  m_if ((3 : Int32) ≤ x8) (
  f_isAttacked_153 self61 self71 x1 x3 x6 x7 x8 I A
  ) (
  m_cl (f_step x1 x6 x7 I A) (fun r1 Ic1 Ac1 =>
  m_bnd ((6 : Int32) + x3) (fun v2 =>
  m_cl (f_stands r1 v2 Ic1 Ac1) (fun r3 Ic3 Ac3 =>
  m_if (r3 = 0) (
  f_isAttacked_153 self61 self71 x1 x3 x6 x7 x8 Ic3 Ac3
  ) (
  f_isAttacked_149 self61 self71 x1 x3 x6 x7 x8 Ic3 Ac3
  ))))
  )
  )

set_option maxRecDepth 100000 in
set_option maxHeartbeats 4000000 in
theorem w_isAttacked_119 {p : Program} {l : Launch} {e : Env} {s : State} {m : MethodId} {args : Array Value} {below : List Frame} {meth : Method} {c : Code} {Q : State → Prop} {D : va_G} {cy ci : ClassId} {h : Nat → Nat} {A0 : Nat → Prop} {o : Int32 × MS} (X : CallFix p m c cX12_isAttacked 10 s args wsX12_isAttacked RX12) (hret : mRi p l e ({ frames := 2, cells := 0, slots := 0, locals := 48 } : Room) s m args below meth c Q cX12_isAttacked D cy ci h A0 .boolean o) {self61 : Int32 → Int32 → Int32 → Int32 → (Nat → Int32) → (Nat → Nat → Int32) → Option (Int32 × MS)} (hself61 : ∀ (x1 : Int32) (x3 : Int32) (x5 : Int32) (x6 : Int32) (I : Nat → Int32) (A : Nat → Nat → Int32) (H : Heap) (locs : List Loc) (ls : Array Slot), self61 x1 x3 x5 x6 I A = some o → mH D cy ci h A0 s H locs I A → lv_has ls 10 [(0, .ref (h 0)), (1, .int x1), (3, .int x3), (5, .int x5), (6, .int x6)] → W p l e ({ frames := 2, cells := 0, slots := 0, locals := 48 } : Room) s m args below meth c H locs 0 0 Q (F0 m 61 ls [])) {self71 : Int32 → Int32 → Int32 → Int32 → Int32 → (Nat → Int32) → (Nat → Nat → Int32) → Option (Int32 × MS)} (hself71 : ∀ (x1 : Int32) (x3 : Int32) (x5 : Int32) (x6 : Int32) (x7 : Int32) (I : Nat → Int32) (A : Nat → Nat → Int32) (H : Heap) (locs : List Loc) (ls : Array Slot), self71 x1 x3 x5 x6 x7 I A = some o → mH D cy ci h A0 s H locs I A → lv_has ls 10 [(0, .ref (h 0)), (1, .int x1), (3, .int x3), (5, .int x5), (6, .int x6), (7, .int x7)] → W p l e ({ frames := 2, cells := 0, slots := 0, locals := 48 } : Room) s m args below meth c H locs 0 0 Q (F0 m 71 ls [])) {x1 : Int32} {x3 : Int32} {x6 : Int32} {x7 : Int32} {x8 : Int32} {I : Nat → Int32} {A : Nat → Nat → Int32} {H : Heap} {locs : List Loc} {ls : Array Slot} (hf : f_isAttacked_119 self61 self71 x1 x3 x6 x7 x8 I A = some o) (hM : mH D cy ci h A0 s H locs I A) (hl : lv_has ls 10 [(0, .ref (h 0)), (1, .int x1), (3, .int x3), (6, .int x6), (7, .int x7), (8, .int x8)]) : W p l e ({ frames := 2, cells := 0, slots := 0, locals := 48 } : Room) s m args below meth c H locs 0 0 Q (F0 m 119 ls []) := by
  obtain ⟨hx, hb, hml, hown, hts⟩ := id X
  unfold f_isAttacked_119 at hf
  refine lv_iload hx hb dX12_isAttacked_119 (lv_at hl 5 rfl) ?_
  refine lv_if_le (tgt := 153) hx hb dX12_isAttacked_121 (by decide) (fun cc1 => ?_) (fun cc1 => ?_)
  · replace hf := m_ifT hf cc1
    exact w_isAttacked_153 X hret hself61 hself71 hf hM (lv_sub hl [0, 1, 2, 3, 4, 5] rfl)
  · replace hf := m_ifF hf cc1
    refine lv_iload hx hb dX12_isAttacked_124 (lv_at hl 5 rfl) ?_
    refine lv_iconst (v := (3 : Int32)) hx hb dX12_isAttacked_126 (by decide) ?_
    refine lv_icmp_ge (tgt := 153) hx hb dX12_isAttacked_127 (by decide) (fun cc1 => ?_) (fun cc1 => ?_)
    · replace hf := m_ifT hf cc1
      exact w_isAttacked_153 X hret hself61 hself71 hf hM (lv_sub hl [0, 1, 2, 3, 4, 5] rfl)
    · replace hf := m_ifF hf cc1
      refine lv_aload_n hx hb dX12_isAttacked_130 rfl (lv_at hl 0 rfl) ?_
      refine lv_iload_n hx hb dX12_isAttacked_131 rfl (lv_at hl 1 rfl) ?_
      refine lv_iload hx hb dX12_isAttacked_132 (lv_at hl 3 rfl) ?_
      refine lv_iload hx hb dX12_isAttacked_134 (lv_at hl 4 rfl) ?_
      obtain ⟨o1, ho, hf⟩ := m_clE hf
      refine m_callSi X hM (c_step ho) gX12_isAttacked_X12_step rfl ⟨rfl, rfl⟩ hd_step ⟨Nat.le_of_ble_eq_true rfl, Nat.le_of_ble_eq_true rfl⟩ rfl hl.1 rfl (Nat.le_of_ble_eq_true rfl) dX12_isAttacked_136 (fun H locs hM => ?_)
      clear ho
      refine lv_bipush (v := (6 : Int32)) hx hb dX12_isAttacked_139 (by decide) ?_
      refine lv_iload_n hx hb dX12_isAttacked_141 rfl (lv_at hl 2 rfl) ?_
      refine lv_iadd hx hb dX12_isAttacked_142 ?_
      obtain ⟨v2, ev, hf⟩ := m_bndE hf
      refine m_top ev ?_
      clear ev
      obtain ⟨o3, ho, hf⟩ := m_clE hf
      refine m_callVi X hM (c_stands ho) gX12_isAttacked_X12_stands rfl ⟨rfl, rfl⟩ hd_stands ⟨Nat.le_of_ble_eq_true rfl, Nat.le_of_ble_eq_true rfl⟩ rfl hl.1 rfl (Nat.le_of_ble_eq_true rfl) dX12_isAttacked_143 (fun H locs hM => ?_)
      clear ho
      refine lv_if_eq (tgt := 153) hx hb dX12_isAttacked_146 (by decide) (fun cc1 => ?_) (fun cc1 => ?_)
      · replace hf := m_ifT hf cc1
        exact w_isAttacked_153 X hret hself61 hself71 hf hM (lv_sub hl [0, 1, 2, 3, 4, 5] rfl)
      · replace hf := m_ifF hf cc1
        exact w_isAttacked_149 X hret hself61 hself71 hf hM (lv_sub hl [0, 1, 2, 3, 4, 5] rfl)
noncomputable def f_isAttacked_71s (self61 : Int32 → Int32 → Int32 → Int32 → (Nat → Int32) → (Nat → Nat → Int32) → Option (Int32 × MS)) (self71 : Int32 → Int32 → Int32 → Int32 → Int32 → (Nat → Int32) → (Nat → Nat → Int32) → Option (Int32 × MS)) (x1 : Int32) (x3 : Int32) (x5 : Int32) (x6 : Int32) (x7 : Int32) (I : Nat → Int32) (A : Nat → Nat → Int32) : Option (Int32 × MS) :=
  m_if ((3 : Int32) ≤ x7) (
  m_bnd (x6 + (1 : Int32)) (fun v1 =>
  self61 x1 x3 x5 v1 I A)
  ) (
  m_bnd (x6 * x6) (fun v2 =>
  m_bnd (x7 * x7) (fun v3 =>
  m_bnd (v2 + v3) (fun v4 =>
  m_if (x5 = 0) (
  m_if (v4 = (5 : Int32)) (
  m_cl (f_step x1 x6 x7 I A) (fun r5 Ic5 Ac5 =>
  m_bnd ((2 : Int32) + x3) (fun v6 =>
  m_cl (f_stands r5 v6 Ic5 Ac5) (fun r7 Ic7 Ac7 =>
  m_if (r7 = 0) (
  f_isAttacked_119 self61 self71 x1 x3 x6 x7 v4 Ic7 Ac7
  ) (
  f_isAttacked_149 self61 self71 x1 x3 x6 x7 v4 Ic7 Ac7
  ))))
  ) (
  f_isAttacked_119 self61 self71 x1 x3 x6 x7 v4 I A
  )
  ) (
  f_isAttacked_149 self61 self71 x1 x3 x6 x7 v4 I A
  ))))
  )

set_option maxRecDepth 100000 in
set_option maxHeartbeats 4000000 in
theorem ws_isAttacked_71 {p : Program} {l : Launch} {e : Env} {s : State} {m : MethodId} {args : Array Value} {below : List Frame} {meth : Method} {c : Code} {Q : State → Prop} {D : va_G} {cy ci : ClassId} {h : Nat → Nat} {A0 : Nat → Prop} {o : Int32 × MS} (X : CallFix p m c cX12_isAttacked 10 s args wsX12_isAttacked RX12) (hret : mRi p l e ({ frames := 2, cells := 0, slots := 0, locals := 48 } : Room) s m args below meth c Q cX12_isAttacked D cy ci h A0 .boolean o) {self61 : Int32 → Int32 → Int32 → Int32 → (Nat → Int32) → (Nat → Nat → Int32) → Option (Int32 × MS)} (hself61 : ∀ (x1 : Int32) (x3 : Int32) (x5 : Int32) (x6 : Int32) (I : Nat → Int32) (A : Nat → Nat → Int32) (H : Heap) (locs : List Loc) (ls : Array Slot), self61 x1 x3 x5 x6 I A = some o → mH D cy ci h A0 s H locs I A → lv_has ls 10 [(0, .ref (h 0)), (1, .int x1), (3, .int x3), (5, .int x5), (6, .int x6)] → W p l e ({ frames := 2, cells := 0, slots := 0, locals := 48 } : Room) s m args below meth c H locs 0 0 Q (F0 m 61 ls [])) {self71 : Int32 → Int32 → Int32 → Int32 → Int32 → (Nat → Int32) → (Nat → Nat → Int32) → Option (Int32 × MS)} (hself71 : ∀ (x1 : Int32) (x3 : Int32) (x5 : Int32) (x6 : Int32) (x7 : Int32) (I : Nat → Int32) (A : Nat → Nat → Int32) (H : Heap) (locs : List Loc) (ls : Array Slot), self71 x1 x3 x5 x6 x7 I A = some o → mH D cy ci h A0 s H locs I A → lv_has ls 10 [(0, .ref (h 0)), (1, .int x1), (3, .int x3), (5, .int x5), (6, .int x6), (7, .int x7)] → W p l e ({ frames := 2, cells := 0, slots := 0, locals := 48 } : Room) s m args below meth c H locs 0 0 Q (F0 m 71 ls [])) {x1 : Int32} {x3 : Int32} {x5 : Int32} {x6 : Int32} {x7 : Int32} {I : Nat → Int32} {A : Nat → Nat → Int32} {H : Heap} {locs : List Loc} {ls : Array Slot} (hf : f_isAttacked_71s self61 self71 x1 x3 x5 x6 x7 I A = some o) (hM : mH D cy ci h A0 s H locs I A) (hl : lv_has ls 10 [(0, .ref (h 0)), (1, .int x1), (3, .int x3), (5, .int x5), (6, .int x6), (7, .int x7)]) : W p l e ({ frames := 2, cells := 0, slots := 0, locals := 48 } : Room) s m args below meth c H locs 0 0 Q (F0 m 71 ls []) := by
  obtain ⟨hx, hb, hml, hown, hts⟩ := id X
  unfold f_isAttacked_71s at hf
  refine lv_iload hx hb dX12_isAttacked_71 (lv_at hl 5 rfl) ?_
  refine lv_iconst (v := (3 : Int32)) hx hb dX12_isAttacked_73 (by decide) ?_
  refine lv_icmp_ge (tgt := 223) hx hb dX12_isAttacked_74 (by decide) (fun cc1 => ?_) (fun cc1 => ?_)
  · replace hf := m_ifT hf cc1
    obtain ⟨v1, ev, hf⟩ := m_bndE hf
    refine lv_iinc (v := v1) (lv' := [(6, .int v1), (0, .ref (h 0)), (1, .int x1), (3, .int x3), (5, .int x5), (7, .int x7)]) hx hb dX12_isAttacked_223 hl (k := 4) rfl (by rw [ev]; rfl) (by decide) rfl (fun ls hl => ?_)
    clear ev
    refine lv_goto (tgt := 61) hx hb dX12_isAttacked_226 (by decide) ?_
    exact hself61 _ _ _ _ _ _ _ _ _ hf hM (lv_sub hl [1, 2, 3, 4, 0] rfl)
  · replace hf := m_ifF hf cc1
    refine lv_iload hx hb dX12_isAttacked_77 (lv_at hl 4 rfl) ?_
    refine lv_iload hx hb dX12_isAttacked_79 (lv_at hl 4 rfl) ?_
    refine lv_imul hx hb dX12_isAttacked_81 ?_
    obtain ⟨v2, ev, hf⟩ := m_bndE hf
    refine m_top ev ?_
    clear ev
    refine lv_iload hx hb dX12_isAttacked_82 (lv_at hl 5 rfl) ?_
    refine lv_iload hx hb dX12_isAttacked_84 (lv_at hl 5 rfl) ?_
    refine lv_imul hx hb dX12_isAttacked_86 ?_
    obtain ⟨v3, ev, hf⟩ := m_bndE hf
    refine m_top ev ?_
    clear ev
    refine lv_iadd hx hb dX12_isAttacked_87 ?_
    obtain ⟨v4, ev, hf⟩ := m_bndE hf
    refine m_top ev ?_
    clear ev
    refine lv_istore (lv' := [(8, .int v4), (0, .ref (h 0)), (1, .int x1), (3, .int x3), (5, .int x5), (6, .int x6), (7, .int x7)]) hx hb dX12_isAttacked_88 hl (by decide) rfl (fun ls hl => ?_)
    refine lv_iload hx hb dX12_isAttacked_90 (lv_at hl 4 rfl) ?_
    refine lv_if_ne (tgt := 149) hx hb dX12_isAttacked_92 (by decide) (fun cc1 => ?_) (fun cc1 => ?_)
    · replace hf := m_ifF hf cc1
      exact w_isAttacked_149 X hret hself61 hself71 hf hM (lv_sub hl [1, 2, 3, 5, 6, 0] rfl)
    · replace hf := m_ifT hf cc1
      refine lv_iload hx hb dX12_isAttacked_95 (lv_at hl 0 rfl) ?_
      refine lv_iconst (v := (5 : Int32)) hx hb dX12_isAttacked_97 (by decide) ?_
      refine lv_icmp_ne (tgt := 119) hx hb dX12_isAttacked_98 (by decide) (fun cc1 => ?_) (fun cc1 => ?_)
      · replace hf := m_ifF hf cc1
        exact w_isAttacked_119 X hret hself61 hself71 hf hM (lv_sub hl [1, 2, 3, 5, 6, 0] rfl)
      · replace hf := m_ifT hf cc1
        refine lv_aload_n hx hb dX12_isAttacked_101 rfl (lv_at hl 1 rfl) ?_
        refine lv_iload_n hx hb dX12_isAttacked_102 rfl (lv_at hl 2 rfl) ?_
        refine lv_iload hx hb dX12_isAttacked_103 (lv_at hl 5 rfl) ?_
        refine lv_iload hx hb dX12_isAttacked_105 (lv_at hl 6 rfl) ?_
        obtain ⟨o5, ho, hf⟩ := m_clE hf
        refine m_callSi X hM (c_step ho) gX12_isAttacked_X12_step rfl ⟨rfl, rfl⟩ hd_step ⟨Nat.le_of_ble_eq_true rfl, Nat.le_of_ble_eq_true rfl⟩ rfl hl.1 rfl (Nat.le_of_ble_eq_true rfl) dX12_isAttacked_107 (fun H locs hM => ?_)
        clear ho
        refine lv_iconst (v := (2 : Int32)) hx hb dX12_isAttacked_110 (by decide) ?_
        refine lv_iload_n hx hb dX12_isAttacked_111 rfl (lv_at hl 3 rfl) ?_
        refine lv_iadd hx hb dX12_isAttacked_112 ?_
        obtain ⟨v6, ev, hf⟩ := m_bndE hf
        refine m_top ev ?_
        clear ev
        obtain ⟨o7, ho, hf⟩ := m_clE hf
        refine m_callVi X hM (c_stands ho) gX12_isAttacked_X12_stands rfl ⟨rfl, rfl⟩ hd_stands ⟨Nat.le_of_ble_eq_true rfl, Nat.le_of_ble_eq_true rfl⟩ rfl hl.1 rfl (Nat.le_of_ble_eq_true rfl) dX12_isAttacked_113 (fun H locs hM => ?_)
        clear ho
        refine lv_if_ne (tgt := 149) hx hb dX12_isAttacked_116 (by decide) (fun cc1 => ?_) (fun cc1 => ?_)
        · replace hf := m_ifF hf cc1
          exact w_isAttacked_149 X hret hself61 hself71 hf hM (lv_sub hl [1, 2, 3, 5, 6, 0] rfl)
        · replace hf := m_ifT hf cc1
          exact w_isAttacked_119 X hret hself61 hself71 hf hM (lv_sub hl [1, 2, 3, 5, 6, 0] rfl)
noncomputable def f_isAttacked_71 (self61 : Int32 → Int32 → Int32 → Int32 → (Nat → Int32) → (Nat → Nat → Int32) → Option (Int32 × MS)) : Nat → Int32 → Int32 → Int32 → Int32 → Int32 → (Nat → Int32) → (Nat → Nat → Int32) → Option (Int32 × MS)
  | 0 => fun _ _ _ _ _ _ _ => none
  | n + 1 => f_isAttacked_71s self61 (f_isAttacked_71 self61 n)
theorem w_isAttacked_71 {p : Program} {l : Launch} {e : Env} {s : State} {m : MethodId} {args : Array Value} {below : List Frame} {meth : Method} {c : Code} {Q : State → Prop} {D : va_G} {cy ci : ClassId} {h : Nat → Nat} {A0 : Nat → Prop} {o : Int32 × MS} (X : CallFix p m c cX12_isAttacked 10 s args wsX12_isAttacked RX12) (hret : mRi p l e ({ frames := 2, cells := 0, slots := 0, locals := 48 } : Room) s m args below meth c Q cX12_isAttacked D cy ci h A0 .boolean o) {self61 : Int32 → Int32 → Int32 → Int32 → (Nat → Int32) → (Nat → Nat → Int32) → Option (Int32 × MS)} (hself61 : ∀ (x1 : Int32) (x3 : Int32) (x5 : Int32) (x6 : Int32) (I : Nat → Int32) (A : Nat → Nat → Int32) (H : Heap) (locs : List Loc) (ls : Array Slot), self61 x1 x3 x5 x6 I A = some o → mH D cy ci h A0 s H locs I A → lv_has ls 10 [(0, .ref (h 0)), (1, .int x1), (3, .int x3), (5, .int x5), (6, .int x6)] → W p l e ({ frames := 2, cells := 0, slots := 0, locals := 48 } : Room) s m args below meth c H locs 0 0 Q (F0 m 61 ls [])) (n : Nat) : ∀ (x1 : Int32) (x3 : Int32) (x5 : Int32) (x6 : Int32) (x7 : Int32) (I : Nat → Int32) (A : Nat → Nat → Int32) (H : Heap) (locs : List Loc) (ls : Array Slot), f_isAttacked_71 self61 n x1 x3 x5 x6 x7 I A = some o → mH D cy ci h A0 s H locs I A → lv_has ls 10 [(0, .ref (h 0)), (1, .int x1), (3, .int x3), (5, .int x5), (6, .int x6), (7, .int x7)] → W p l e ({ frames := 2, cells := 0, slots := 0, locals := 48 } : Room) s m args below meth c H locs 0 0 Q (F0 m 71 ls []) := by
  induction n with
  | zero => intro x1 x3 x5 x6 x7 I A H locs ls hf; cases hf
  | succ n ih => intro x1 x3 x5 x6 x7 I A H locs ls hf hM hl; exact ws_isAttacked_71 X hret hself61 (self71 := f_isAttacked_71 self61 n) ih hf hM hl
noncomputable def f_isAttacked_61s (self61 : Int32 → Int32 → Int32 → Int32 → (Nat → Int32) → (Nat → Nat → Int32) → Option (Int32 × MS)) (x1 : Int32) (x3 : Int32) (x5 : Int32) (x6 : Int32) (I : Nat → Int32) (A : Nat → Nat → Int32) : Option (Int32 × MS) :=
  m_if ((3 : Int32) ≤ x6) (
  m_chk (vp_nar .boolean x5 = x5) (some (x5, (I, A)))
  ) (
  f_isAttacked_71 self61 mFuel x1 x3 x5 x6 (-2 : Int32) I A
  )

set_option maxRecDepth 100000 in
set_option maxHeartbeats 4000000 in
theorem ws_isAttacked_61 {p : Program} {l : Launch} {e : Env} {s : State} {m : MethodId} {args : Array Value} {below : List Frame} {meth : Method} {c : Code} {Q : State → Prop} {D : va_G} {cy ci : ClassId} {h : Nat → Nat} {A0 : Nat → Prop} {o : Int32 × MS} (X : CallFix p m c cX12_isAttacked 10 s args wsX12_isAttacked RX12) (hret : mRi p l e ({ frames := 2, cells := 0, slots := 0, locals := 48 } : Room) s m args below meth c Q cX12_isAttacked D cy ci h A0 .boolean o) {self61 : Int32 → Int32 → Int32 → Int32 → (Nat → Int32) → (Nat → Nat → Int32) → Option (Int32 × MS)} (hself61 : ∀ (x1 : Int32) (x3 : Int32) (x5 : Int32) (x6 : Int32) (I : Nat → Int32) (A : Nat → Nat → Int32) (H : Heap) (locs : List Loc) (ls : Array Slot), self61 x1 x3 x5 x6 I A = some o → mH D cy ci h A0 s H locs I A → lv_has ls 10 [(0, .ref (h 0)), (1, .int x1), (3, .int x3), (5, .int x5), (6, .int x6)] → W p l e ({ frames := 2, cells := 0, slots := 0, locals := 48 } : Room) s m args below meth c H locs 0 0 Q (F0 m 61 ls [])) {x1 : Int32} {x3 : Int32} {x5 : Int32} {x6 : Int32} {I : Nat → Int32} {A : Nat → Nat → Int32} {H : Heap} {locs : List Loc} {ls : Array Slot} (hf : f_isAttacked_61s self61 x1 x3 x5 x6 I A = some o) (hM : mH D cy ci h A0 s H locs I A) (hl : lv_has ls 10 [(0, .ref (h 0)), (1, .int x1), (3, .int x3), (5, .int x5), (6, .int x6)]) : W p l e ({ frames := 2, cells := 0, slots := 0, locals := 48 } : Room) s m args below meth c H locs 0 0 Q (F0 m 61 ls []) := by
  obtain ⟨hx, hb, hml, hown, hts⟩ := id X
  unfold f_isAttacked_61s at hf
  refine lv_iload hx hb dX12_isAttacked_61 (lv_at hl 4 rfl) ?_
  refine lv_iconst (v := (3 : Int32)) hx hb dX12_isAttacked_63 (by decide) ?_
  refine lv_icmp_ge (tgt := 229) hx hb dX12_isAttacked_64 (by decide) (fun cc1 => ?_) (fun cc1 => ?_)
  · replace hf := m_ifT hf cc1
    refine lv_iload hx hb dX12_isAttacked_229 (lv_at hl 3 rfl) ?_
    obtain ⟨cd, hf⟩ := m_chkE hf
    cases hf
    exact hret H locs _ ls hM (m_nb cd) dX12_isAttacked_231
  · replace hf := m_ifF hf cc1
    refine lv_bipush (v := (-2 : Int32)) hx hb dX12_isAttacked_67 (by decide) ?_
    refine lv_istore (lv' := [(7, .int (-2 : Int32)), (0, .ref (h 0)), (1, .int x1), (3, .int x3), (5, .int x5), (6, .int x6)]) hx hb dX12_isAttacked_69 hl (by decide) rfl (fun ls hl => ?_)
    exact w_isAttacked_71 X hret hself61 _ _ _ _ _ _ _ _ _ _ _ hf hM (lv_sub hl [1, 2, 3, 4, 5, 0] rfl)
noncomputable def f_isAttacked_61 : Nat → Int32 → Int32 → Int32 → Int32 → (Nat → Int32) → (Nat → Nat → Int32) → Option (Int32 × MS)
  | 0 => fun _ _ _ _ _ _ => none
  | n + 1 => f_isAttacked_61s (f_isAttacked_61 n)
theorem w_isAttacked_61 {p : Program} {l : Launch} {e : Env} {s : State} {m : MethodId} {args : Array Value} {below : List Frame} {meth : Method} {c : Code} {Q : State → Prop} {D : va_G} {cy ci : ClassId} {h : Nat → Nat} {A0 : Nat → Prop} {o : Int32 × MS} (X : CallFix p m c cX12_isAttacked 10 s args wsX12_isAttacked RX12) (hret : mRi p l e ({ frames := 2, cells := 0, slots := 0, locals := 48 } : Room) s m args below meth c Q cX12_isAttacked D cy ci h A0 .boolean o) (n : Nat) : ∀ (x1 : Int32) (x3 : Int32) (x5 : Int32) (x6 : Int32) (I : Nat → Int32) (A : Nat → Nat → Int32) (H : Heap) (locs : List Loc) (ls : Array Slot), f_isAttacked_61 n x1 x3 x5 x6 I A = some o → mH D cy ci h A0 s H locs I A → lv_has ls 10 [(0, .ref (h 0)), (1, .int x1), (3, .int x3), (5, .int x5), (6, .int x6)] → W p l e ({ frames := 2, cells := 0, slots := 0, locals := 48 } : Room) s m args below meth c H locs 0 0 Q (F0 m 61 ls []) := by
  induction n with
  | zero => intro x1 x3 x5 x6 I A H locs ls hf; cases hf
  | succ n ih => intro x1 x3 x5 x6 I A H locs ls hf hM hl; exact ws_isAttacked_61 X hret (self61 := f_isAttacked_61 n) ih hf hM hl
noncomputable def f_isAttacked_55 (x1 : Int32) (x3 : Int32) (t0 : Int32) (I : Nat → Int32) (A : Nat → Nat → Int32) : Option (Int32 × MS) :=
  f_isAttacked_61 mFuel x1 x3 t0 (-2 : Int32) I A

set_option maxRecDepth 100000 in
set_option maxHeartbeats 4000000 in
theorem w_isAttacked_55 {p : Program} {l : Launch} {e : Env} {s : State} {m : MethodId} {args : Array Value} {below : List Frame} {meth : Method} {c : Code} {Q : State → Prop} {D : va_G} {cy ci : ClassId} {h : Nat → Nat} {A0 : Nat → Prop} {o : Int32 × MS} (X : CallFix p m c cX12_isAttacked 10 s args wsX12_isAttacked RX12) (hret : mRi p l e ({ frames := 2, cells := 0, slots := 0, locals := 48 } : Room) s m args below meth c Q cX12_isAttacked D cy ci h A0 .boolean o) {x1 : Int32} {x3 : Int32} {t0 : Int32} {I : Nat → Int32} {A : Nat → Nat → Int32} {H : Heap} {locs : List Loc} {ls : Array Slot} (hf : f_isAttacked_55 x1 x3 t0 I A = some o) (hM : mH D cy ci h A0 s H locs I A) (hl : lv_has ls 10 [(0, .ref (h 0)), (1, .int x1), (3, .int x3)]) : W p l e ({ frames := 2, cells := 0, slots := 0, locals := 48 } : Room) s m args below meth c H locs 0 0 Q (F0 m 55 ls [.int t0]) := by
  obtain ⟨hx, hb, hml, hown, hts⟩ := id X
  unfold f_isAttacked_55 at hf
  refine lv_istore (lv' := [(5, .int t0), (0, .ref (h 0)), (1, .int x1), (3, .int x3)]) hx hb dX12_isAttacked_55 hl (by decide) rfl (fun ls hl => ?_)
  refine lv_bipush (v := (-2 : Int32)) hx hb dX12_isAttacked_57 (by decide) ?_
  refine lv_istore (lv' := [(6, .int (-2 : Int32)), (5, .int t0), (0, .ref (h 0)), (1, .int x1), (3, .int x3)]) hx hb dX12_isAttacked_59 hl (by decide) rfl (fun ls hl => ?_)
  exact w_isAttacked_61 X hret _ _ _ _ _ _ _ _ _ _ hf hM (lv_sub hl [2, 3, 4, 1, 0] rfl)
noncomputable def f_isAttacked_50 (x1 : Int32) (x3 : Int32) (I : Nat → Int32) (A : Nat → Nat → Int32) : Option (Int32 × MS) :=
  f_isAttacked_55 x1 x3 (1 : Int32) I A

set_option maxRecDepth 100000 in
set_option maxHeartbeats 4000000 in
theorem w_isAttacked_50 {p : Program} {l : Launch} {e : Env} {s : State} {m : MethodId} {args : Array Value} {below : List Frame} {meth : Method} {c : Code} {Q : State → Prop} {D : va_G} {cy ci : ClassId} {h : Nat → Nat} {A0 : Nat → Prop} {o : Int32 × MS} (X : CallFix p m c cX12_isAttacked 10 s args wsX12_isAttacked RX12) (hret : mRi p l e ({ frames := 2, cells := 0, slots := 0, locals := 48 } : Room) s m args below meth c Q cX12_isAttacked D cy ci h A0 .boolean o) {x1 : Int32} {x3 : Int32} {I : Nat → Int32} {A : Nat → Nat → Int32} {H : Heap} {locs : List Loc} {ls : Array Slot} (hf : f_isAttacked_50 x1 x3 I A = some o) (hM : mH D cy ci h A0 s H locs I A) (hl : lv_has ls 10 [(0, .ref (h 0)), (1, .int x1), (3, .int x3)]) : W p l e ({ frames := 2, cells := 0, slots := 0, locals := 48 } : Room) s m args below meth c H locs 0 0 Q (F0 m 50 ls []) := by
  obtain ⟨hx, hb, hml, hown, hts⟩ := id X
  unfold f_isAttacked_50 at hf
  refine lv_iconst (v := (1 : Int32)) hx hb dX12_isAttacked_50 (by decide) ?_
  refine lv_goto (tgt := 55) hx hb dX12_isAttacked_51 (by decide) ?_
  exact w_isAttacked_55 X hret hf hM (lv_sub hl [0, 1, 2] rfl)
noncomputable def f_isAttacked_14 (x1 : Int32) (x3 : Int32) (t0 : Int32) (I : Nat → Int32) (A : Nat → Nat → Int32) : Option (Int32 × MS) :=
  m_cl (f_step x1 (-1 : Int32) t0 I A) (fun r1 Ic1 Ac1 =>
  m_bnd ((1 : Int32) + x3) (fun v2 =>
  m_cl (f_stands r1 v2 Ic1 Ac1) (fun r3 Ic3 Ac3 =>
  m_if (r3 = 0) (
  m_cl (f_step x1 (1 : Int32) t0 Ic3 Ac3) (fun r4 Ic4 Ac4 =>
  m_bnd ((1 : Int32) + x3) (fun v5 =>
  m_cl (f_stands r4 v5 Ic4 Ac4) (fun r6 Ic6 Ac6 =>
  m_if (r6 = 0) (
  f_isAttacked_55 x1 x3 (0 : Int32) Ic6 Ac6
  ) (
  f_isAttacked_50 x1 x3 Ic6 Ac6
  ))))
  ) (
  f_isAttacked_50 x1 x3 Ic3 Ac3
  ))))

set_option maxRecDepth 100000 in
set_option maxHeartbeats 4000000 in
theorem w_isAttacked_14 {p : Program} {l : Launch} {e : Env} {s : State} {m : MethodId} {args : Array Value} {below : List Frame} {meth : Method} {c : Code} {Q : State → Prop} {D : va_G} {cy ci : ClassId} {h : Nat → Nat} {A0 : Nat → Prop} {o : Int32 × MS} (X : CallFix p m c cX12_isAttacked 10 s args wsX12_isAttacked RX12) (hret : mRi p l e ({ frames := 2, cells := 0, slots := 0, locals := 48 } : Room) s m args below meth c Q cX12_isAttacked D cy ci h A0 .boolean o) {x1 : Int32} {x3 : Int32} {t0 : Int32} {I : Nat → Int32} {A : Nat → Nat → Int32} {H : Heap} {locs : List Loc} {ls : Array Slot} (hf : f_isAttacked_14 x1 x3 t0 I A = some o) (hM : mH D cy ci h A0 s H locs I A) (hl : lv_has ls 10 [(0, .ref (h 0)), (1, .int x1), (3, .int x3)]) : W p l e ({ frames := 2, cells := 0, slots := 0, locals := 48 } : Room) s m args below meth c H locs 0 0 Q (F0 m 14 ls [.int t0]) := by
  obtain ⟨hx, hb, hml, hown, hts⟩ := id X
  unfold f_isAttacked_14 at hf
  refine lv_istore (lv' := [(4, .int t0), (0, .ref (h 0)), (1, .int x1), (3, .int x3)]) hx hb dX12_isAttacked_14 hl (by decide) rfl (fun ls hl => ?_)
  refine lv_aload_n hx hb dX12_isAttacked_16 rfl (lv_at hl 1 rfl) ?_
  refine lv_iload_n hx hb dX12_isAttacked_17 rfl (lv_at hl 2 rfl) ?_
  refine lv_iconst (v := (-1 : Int32)) hx hb dX12_isAttacked_18 (by decide) ?_
  refine lv_iload hx hb dX12_isAttacked_19 (lv_at hl 0 rfl) ?_
  obtain ⟨o1, ho, hf⟩ := m_clE hf
  refine m_callSi X hM (c_step ho) gX12_isAttacked_X12_step rfl ⟨rfl, rfl⟩ hd_step ⟨Nat.le_of_ble_eq_true rfl, Nat.le_of_ble_eq_true rfl⟩ rfl hl.1 rfl (Nat.le_of_ble_eq_true rfl) dX12_isAttacked_21 (fun H locs hM => ?_)
  clear ho
  refine lv_iconst (v := (1 : Int32)) hx hb dX12_isAttacked_24 (by decide) ?_
  refine lv_iload_n hx hb dX12_isAttacked_25 rfl (lv_at hl 3 rfl) ?_
  refine lv_iadd hx hb dX12_isAttacked_26 ?_
  obtain ⟨v2, ev, hf⟩ := m_bndE hf
  refine m_top ev ?_
  clear ev
  obtain ⟨o3, ho, hf⟩ := m_clE hf
  refine m_callVi X hM (c_stands ho) gX12_isAttacked_X12_stands rfl ⟨rfl, rfl⟩ hd_stands ⟨Nat.le_of_ble_eq_true rfl, Nat.le_of_ble_eq_true rfl⟩ rfl hl.1 rfl (Nat.le_of_ble_eq_true rfl) dX12_isAttacked_27 (fun H locs hM => ?_)
  clear ho
  refine lv_if_ne (tgt := 50) hx hb dX12_isAttacked_30 (by decide) (fun cc1 => ?_) (fun cc1 => ?_)
  · replace hf := m_ifF hf cc1
    exact w_isAttacked_50 X hret hf hM (lv_sub hl [1, 2, 3] rfl)
  · replace hf := m_ifT hf cc1
    refine lv_aload_n hx hb dX12_isAttacked_33 rfl (lv_at hl 1 rfl) ?_
    refine lv_iload_n hx hb dX12_isAttacked_34 rfl (lv_at hl 2 rfl) ?_
    refine lv_iconst (v := (1 : Int32)) hx hb dX12_isAttacked_35 (by decide) ?_
    refine lv_iload hx hb dX12_isAttacked_36 (lv_at hl 0 rfl) ?_
    obtain ⟨o4, ho, hf⟩ := m_clE hf
    refine m_callSi X hM (c_step ho) gX12_isAttacked_X12_step rfl ⟨rfl, rfl⟩ hd_step ⟨Nat.le_of_ble_eq_true rfl, Nat.le_of_ble_eq_true rfl⟩ rfl hl.1 rfl (Nat.le_of_ble_eq_true rfl) dX12_isAttacked_38 (fun H locs hM => ?_)
    clear ho
    refine lv_iconst (v := (1 : Int32)) hx hb dX12_isAttacked_41 (by decide) ?_
    refine lv_iload_n hx hb dX12_isAttacked_42 rfl (lv_at hl 3 rfl) ?_
    refine lv_iadd hx hb dX12_isAttacked_43 ?_
    obtain ⟨v5, ev, hf⟩ := m_bndE hf
    refine m_top ev ?_
    clear ev
    obtain ⟨o6, ho, hf⟩ := m_clE hf
    refine m_callVi X hM (c_stands ho) gX12_isAttacked_X12_stands rfl ⟨rfl, rfl⟩ hd_stands ⟨Nat.le_of_ble_eq_true rfl, Nat.le_of_ble_eq_true rfl⟩ rfl hl.1 rfl (Nat.le_of_ble_eq_true rfl) dX12_isAttacked_44 (fun H locs hM => ?_)
    clear ho
    refine lv_if_eq (tgt := 54) hx hb dX12_isAttacked_47 (by decide) (fun cc1 => ?_) (fun cc1 => ?_)
    · replace hf := m_ifT hf cc1
      refine lv_iconst (v := (0 : Int32)) hx hb dX12_isAttacked_54 (by decide) ?_
      exact w_isAttacked_55 X hret hf hM (lv_sub hl [1, 2, 3] rfl)
    · replace hf := m_ifF hf cc1
      exact w_isAttacked_50 X hret hf hM (lv_sub hl [1, 2, 3] rfl)
noncomputable def f_isAttacked_0 (x1 : Int32) (x2 : Int32) (I : Nat → Int32) (A : Nat → Nat → Int32) : Option (Int32 × MS) :=
  m_bnd ((8 : Int32) * x2) (fun v1 =>
  m_if (x2 = 0) (
  f_isAttacked_14 x1 v1 (-1 : Int32) I A
  ) (
  f_isAttacked_14 x1 v1 (1 : Int32) I A
  ))

set_option maxRecDepth 100000 in
set_option maxHeartbeats 4000000 in
theorem w_isAttacked_0 {p : Program} {l : Launch} {e : Env} {s : State} {m : MethodId} {args : Array Value} {below : List Frame} {meth : Method} {c : Code} {Q : State → Prop} {D : va_G} {cy ci : ClassId} {h : Nat → Nat} {A0 : Nat → Prop} {o : Int32 × MS} (X : CallFix p m c cX12_isAttacked 10 s args wsX12_isAttacked RX12) (hret : mRi p l e ({ frames := 2, cells := 0, slots := 0, locals := 48 } : Room) s m args below meth c Q cX12_isAttacked D cy ci h A0 .boolean o) {x1 : Int32} {x2 : Int32} {I : Nat → Int32} {A : Nat → Nat → Int32} {H : Heap} {locs : List Loc} {ls : Array Slot} (hf : f_isAttacked_0 x1 x2 I A = some o) (hM : mH D cy ci h A0 s H locs I A) (hl : lv_has ls 10 [(0, .ref (h 0)), (1, .int x1), (2, .int x2)]) : W p l e ({ frames := 2, cells := 0, slots := 0, locals := 48 } : Room) s m args below meth c H locs 0 0 Q (F0 m 0 ls []) := by
  obtain ⟨hx, hb, hml, hown, hts⟩ := id X
  unfold f_isAttacked_0 at hf
  refine lv_bipush (v := (8 : Int32)) hx hb dX12_isAttacked_0 (by decide) ?_
  refine lv_iload_n hx hb dX12_isAttacked_2 rfl (lv_at hl 2 rfl) ?_
  refine lv_imul hx hb dX12_isAttacked_3 ?_
  obtain ⟨v1, ev, hf⟩ := m_bndE hf
  refine m_top ev ?_
  clear ev
  refine lv_istore_n (lv' := [(3, .int v1), (0, .ref (h 0)), (1, .int x1), (2, .int x2)]) hx hb dX12_isAttacked_4 rfl hl (by decide) rfl (fun ls hl => ?_)
  refine lv_iload_n hx hb dX12_isAttacked_5 rfl (lv_at hl 3 rfl) ?_
  refine lv_if_ne (tgt := 13) hx hb dX12_isAttacked_6 (by decide) (fun cc1 => ?_) (fun cc1 => ?_)
  · replace hf := m_ifF hf cc1
    refine lv_iconst (v := (1 : Int32)) hx hb dX12_isAttacked_13 (by decide) ?_
    exact w_isAttacked_14 X hret hf hM (lv_sub hl [1, 2, 0] rfl)
  · replace hf := m_ifT hf cc1
    refine lv_iconst (v := (-1 : Int32)) hx hb dX12_isAttacked_9 (by decide) ?_
    refine lv_goto (tgt := 14) hx hb dX12_isAttacked_10 (by decide) ?_
    exact w_isAttacked_14 X hret hf hM (lv_sub hl [1, 2, 0] rfl)
noncomputable def f_isAttacked (x1 : Int32) (x2 : Int32) (I : Nat → Int32) (A : Nat → Nat → Int32) : Option (Int32 × MS) := f_isAttacked_0 x1 x2 I A
theorem c_isAttacked {l : Launch} {D : va_G} {cy ci : ClassId} {h : Nat → Nat} {x1 : Int32} {x2 : Int32} {I : Nat → Int32} {A : Nat → Nat → Int32} {o : Int32 × MS} (hf : f_isAttacked x1 x2 I A = some o) : mMi l yX12_isAttacked wsX12_isAttacked ({ frames := 2, cells := 0, slots := 0, locals := 48 } : Room) [.ref (h 0), .int x1, .int x2] D cy ci h I A o :=
  m_entryI (cc := cX12_isAttacked) (maxL := 10) (by decide) rfl rfl (Nat.le_of_ble_eq_true rfl) (fun p e s m args below meth c A0 Q H locs ls X hret hM hl => w_isAttacked_0 X hret hf hM (lv_sub hl [0, 1, 2] rfl))
theorem hw_mayCastle : ∀ w ∈ wsX120, w ∈ wsX12_mayCastle := by decide +kernel
theorem fl_mayCastle_25 : Cond.fieldLink RX12 121 "MoveTextsModel" "side" "I" ∈ wsX12_mayCastle := by decide +kernel
theorem fl_mayCastle_26 : Cond.fieldLink RX12 124 "MoveTextsModel" "rights" "I" ∈ wsX12_mayCastle := by decide +kernel
theorem hd_mayCastle : yX12_mayCastle.cls = RX12 ∧ yX12_mayCastle.cls ≠ "java/lang/invoke/MethodHandle" ∧ yX12_mayCastle.cls ≠ "java/lang/invoke/VarHandle" ∧ (parseMethodDescriptor yX12_mayCastle.desc).map (fun d => d.parameters.length) = some 1 := by decide +kernel
noncomputable def f_mayCastle_131 (t0 : Int32) (I : Nat → Int32) (A : Nat → Nat → Int32) : Option (Int32 × MS) :=
  m_chk (vp_nar .boolean t0 = t0) (some (t0, (I, A)))

set_option maxRecDepth 100000 in
set_option maxHeartbeats 4000000 in
theorem w_mayCastle_131 {p : Program} {l : Launch} {e : Env} {s : State} {m : MethodId} {args : Array Value} {below : List Frame} {meth : Method} {c : Code} {Q : State → Prop} {D : va_G} {cy ci : ClassId} {h : Nat → Nat} {A0 : Nat → Prop} {o : Int32 × MS} (X : CallFix p m c cX12_mayCastle 6 s args wsX12_mayCastle RX12) (hret : mRi p l e ({ frames := 3, cells := 0, slots := 0, locals := 77 } : Room) s m args below meth c Q cX12_mayCastle D cy ci h A0 .boolean o) {t0 : Int32} {I : Nat → Int32} {A : Nat → Nat → Int32} {H : Heap} {locs : List Loc} {ls : Array Slot} (hf : f_mayCastle_131 t0 I A = some o) (hM : mH D cy ci h A0 s H locs I A) (hl : lv_has ls 6 []) : W p l e ({ frames := 3, cells := 0, slots := 0, locals := 77 } : Room) s m args below meth c H locs 0 0 Q (F0 m 131 ls [.int t0]) := by
  obtain ⟨hx, hb, hml, hown, hts⟩ := id X
  unfold f_mayCastle_131 at hf
  obtain ⟨cd, hf⟩ := m_chkE hf
  cases hf
  exact hret H locs _ ls hM (m_nb cd) dX12_mayCastle_131
noncomputable def f_mayCastle_130 (I : Nat → Int32) (A : Nat → Nat → Int32) : Option (Int32 × MS) :=
  f_mayCastle_131 (0 : Int32) I A

set_option maxRecDepth 100000 in
set_option maxHeartbeats 4000000 in
theorem w_mayCastle_130 {p : Program} {l : Launch} {e : Env} {s : State} {m : MethodId} {args : Array Value} {below : List Frame} {meth : Method} {c : Code} {Q : State → Prop} {D : va_G} {cy ci : ClassId} {h : Nat → Nat} {A0 : Nat → Prop} {o : Int32 × MS} (X : CallFix p m c cX12_mayCastle 6 s args wsX12_mayCastle RX12) (hret : mRi p l e ({ frames := 3, cells := 0, slots := 0, locals := 77 } : Room) s m args below meth c Q cX12_mayCastle D cy ci h A0 .boolean o) {I : Nat → Int32} {A : Nat → Nat → Int32} {H : Heap} {locs : List Loc} {ls : Array Slot} (hf : f_mayCastle_130  I A = some o) (hM : mH D cy ci h A0 s H locs I A) (hl : lv_has ls 6 []) : W p l e ({ frames := 3, cells := 0, slots := 0, locals := 77 } : Room) s m args below meth c H locs 0 0 Q (F0 m 130 ls []) := by
  obtain ⟨hx, hb, hml, hown, hts⟩ := id X
  unfold f_mayCastle_130 at hf
  refine lv_iconst (v := (0 : Int32)) hx hb dX12_mayCastle_130 (by decide) ?_
  exact w_mayCastle_131 X hret hf hM (lv_sub hl [] rfl)
noncomputable def f_mayCastle_82 (x1 : Int32) (x2 : Int32) (x4 : Int32) (t0 : Int32) (I : Nat → Int32) (A : Nat → Nat → Int32) : Option (Int32 × MS) :=
  m_if (x4 = 0) (
  f_mayCastle_130  I A
  ) (
  m_if (t0 = 0) (
  f_mayCastle_130  I A
  ) (
  m_bnd ((1 : Int32) - (I 25)) (fun v1 =>
  m_cl (f_isAttacked x2 v1 I A) (fun r2 Ic2 Ac2 =>
  m_if (r2 = 0) (
  m_bnd (x2 + x1) (fun v3 =>
  m_bnd (v3 / (2 : Int32)) (fun v4 =>
  m_bnd ((1 : Int32) - (Ic2 25)) (fun v5 =>
  m_cl (f_isAttacked v4 v5 Ic2 Ac2) (fun r6 Ic6 Ac6 =>
  m_if (r6 = 0) (
  f_mayCastle_131 (1 : Int32) Ic6 Ac6
  ) (
  f_mayCastle_130  Ic6 Ac6
  )))))
  ) (
  f_mayCastle_130  Ic2 Ac2
  )))
  )
  )

set_option maxRecDepth 100000 in
set_option maxHeartbeats 4000000 in
theorem w_mayCastle_82 {p : Program} {l : Launch} {e : Env} {s : State} {m : MethodId} {args : Array Value} {below : List Frame} {meth : Method} {c : Code} {Q : State → Prop} {D : va_G} {cy ci : ClassId} {h : Nat → Nat} {A0 : Nat → Prop} {o : Int32 × MS} (X : CallFix p m c cX12_mayCastle 6 s args wsX12_mayCastle RX12) (hret : mRi p l e ({ frames := 3, cells := 0, slots := 0, locals := 77 } : Room) s m args below meth c Q cX12_mayCastle D cy ci h A0 .boolean o) {x1 : Int32} {x2 : Int32} {x4 : Int32} {t0 : Int32} {I : Nat → Int32} {A : Nat → Nat → Int32} {H : Heap} {locs : List Loc} {ls : Array Slot} (hf : f_mayCastle_82 x1 x2 x4 t0 I A = some o) (hM : mH D cy ci h A0 s H locs I A) (hl : lv_has ls 6 [(0, .ref (h 0)), (1, .int x1), (2, .int x2), (4, .int x4)]) : W p l e ({ frames := 3, cells := 0, slots := 0, locals := 77 } : Room) s m args below meth c H locs 0 0 Q (F0 m 82 ls [.int t0]) := by
  obtain ⟨hx, hb, hml, hown, hts⟩ := id X
  unfold f_mayCastle_82 at hf
  refine lv_istore (lv' := [(5, .int t0), (0, .ref (h 0)), (1, .int x1), (2, .int x2), (4, .int x4)]) hx hb dX12_mayCastle_82 hl (by decide) rfl (fun ls hl => ?_)
  refine lv_iload hx hb dX12_mayCastle_84 (lv_at hl 4 rfl) ?_
  refine lv_if_eq (tgt := 130) hx hb dX12_mayCastle_86 (by decide) (fun cc1 => ?_) (fun cc1 => ?_)
  · replace hf := m_ifT hf cc1
    exact w_mayCastle_130 X hret hf hM (lv_sub hl [] rfl)
  · replace hf := m_ifF hf cc1
    refine lv_iload hx hb dX12_mayCastle_89 (lv_at hl 0 rfl) ?_
    refine lv_if_eq (tgt := 130) hx hb dX12_mayCastle_91 (by decide) (fun cc1 => ?_) (fun cc1 => ?_)
    · replace hf := m_ifT hf cc1
      exact w_mayCastle_130 X hret hf hM (lv_sub hl [] rfl)
    · replace hf := m_ifF hf cc1
      refine lv_aload_n hx hb dX12_mayCastle_94 rfl (lv_at hl 1 rfl) ?_
      refine lv_iload_n hx hb dX12_mayCastle_95 rfl (lv_at hl 3 rfl) ?_
      refine lv_iconst (v := (1 : Int32)) hx hb dX12_mayCastle_96 (by decide) ?_
      refine lv_aload_n hx hb dX12_mayCastle_97 rfl (lv_at hl 1 rfl) ?_
      refine m_get (v := .int (I 25)) X hw_mayCastle hM 25 (by decide) fl_mayCastle_25 rfl dX12_mayCastle_98 ?_
      refine lv_isub hx hb dX12_mayCastle_101 ?_
      obtain ⟨v1, ev, hf⟩ := m_bndE hf
      refine m_top ev ?_
      clear ev
      obtain ⟨o2, ho, hf⟩ := m_clE hf
      refine m_callVi X hM (c_isAttacked ho) gX12_mayCastle_X12_isAttacked rfl ⟨rfl, rfl⟩ hd_isAttacked ⟨Nat.le_of_ble_eq_true rfl, Nat.le_of_ble_eq_true rfl⟩ rfl hl.1 rfl (Nat.le_of_ble_eq_true rfl) dX12_mayCastle_102 (fun H locs hM => ?_)
      clear ho
      refine lv_if_ne (tgt := 130) hx hb dX12_mayCastle_105 (by decide) (fun cc1 => ?_) (fun cc1 => ?_)
      · replace hf := m_ifF hf cc1
        exact w_mayCastle_130 X hret hf hM (lv_sub hl [] rfl)
      · replace hf := m_ifT hf cc1
        refine lv_aload_n hx hb dX12_mayCastle_108 rfl (lv_at hl 1 rfl) ?_
        refine lv_iload_n hx hb dX12_mayCastle_109 rfl (lv_at hl 3 rfl) ?_
        refine lv_iload_n hx hb dX12_mayCastle_110 rfl (lv_at hl 2 rfl) ?_
        refine lv_iadd hx hb dX12_mayCastle_111 ?_
        obtain ⟨v3, ev, hf⟩ := m_bndE hf
        refine m_top ev ?_
        clear ev
        refine lv_iconst (v := (2 : Int32)) hx hb dX12_mayCastle_112 (by decide) ?_
        refine lv_idiv hx hb dX12_mayCastle_113 (by decide) ?_
        obtain ⟨v4, ev, hf⟩ := m_bndE hf
        refine m_top ev ?_
        clear ev
        refine lv_iconst (v := (1 : Int32)) hx hb dX12_mayCastle_114 (by decide) ?_
        refine lv_aload_n hx hb dX12_mayCastle_115 rfl (lv_at hl 1 rfl) ?_
        refine m_get (v := .int (o2.2.1 25)) X hw_mayCastle hM 25 (by decide) fl_mayCastle_25 rfl dX12_mayCastle_116 ?_
        refine lv_isub hx hb dX12_mayCastle_119 ?_
        obtain ⟨v5, ev, hf⟩ := m_bndE hf
        refine m_top ev ?_
        clear ev
        obtain ⟨o6, ho, hf⟩ := m_clE hf
        refine m_callVi X hM (c_isAttacked ho) gX12_mayCastle_X12_isAttacked rfl ⟨rfl, rfl⟩ hd_isAttacked ⟨Nat.le_of_ble_eq_true rfl, Nat.le_of_ble_eq_true rfl⟩ rfl hl.1 rfl (Nat.le_of_ble_eq_true rfl) dX12_mayCastle_120 (fun H locs hM => ?_)
        clear ho
        refine lv_if_ne (tgt := 130) hx hb dX12_mayCastle_123 (by decide) (fun cc1 => ?_) (fun cc1 => ?_)
        · replace hf := m_ifF hf cc1
          exact w_mayCastle_130 X hret hf hM (lv_sub hl [] rfl)
        · replace hf := m_ifT hf cc1
          refine lv_iconst (v := (1 : Int32)) hx hb dX12_mayCastle_126 (by decide) ?_
          refine lv_goto (tgt := 131) hx hb dX12_mayCastle_127 (by decide) ?_
          exact w_mayCastle_131 X hret hf hM (lv_sub hl [] rfl)
noncomputable def f_mayCastle_53 (x1 : Int32) (x2 : Int32) (x3 : Int32) (t0 : Int32) (I : Nat → Int32) (A : Nat → Nat → Int32) : Option (Int32 × MS) :=
  m_if (x3 = 0) (
  m_bnd (x2 - (3 : Int32)) (fun v1 =>
  m_bnd (x2 - (1 : Int32)) (fun v2 =>
  m_cl (f_isClear v1 v2 I A) (fun r3 Ic3 Ac3 =>
  f_mayCastle_82 x1 x2 t0 r3 Ic3 Ac3)))
  ) (
  m_bnd (x2 + (1 : Int32)) (fun v4 =>
  m_bnd (x2 + (2 : Int32)) (fun v5 =>
  m_cl (f_isClear v4 v5 I A) (fun r6 Ic6 Ac6 =>
  f_mayCastle_82 x1 x2 t0 r6 Ic6 Ac6)))
  )

set_option maxRecDepth 100000 in
set_option maxHeartbeats 4000000 in
theorem w_mayCastle_53 {p : Program} {l : Launch} {e : Env} {s : State} {m : MethodId} {args : Array Value} {below : List Frame} {meth : Method} {c : Code} {Q : State → Prop} {D : va_G} {cy ci : ClassId} {h : Nat → Nat} {A0 : Nat → Prop} {o : Int32 × MS} (X : CallFix p m c cX12_mayCastle 6 s args wsX12_mayCastle RX12) (hret : mRi p l e ({ frames := 3, cells := 0, slots := 0, locals := 77 } : Room) s m args below meth c Q cX12_mayCastle D cy ci h A0 .boolean o) {x1 : Int32} {x2 : Int32} {x3 : Int32} {t0 : Int32} {I : Nat → Int32} {A : Nat → Nat → Int32} {H : Heap} {locs : List Loc} {ls : Array Slot} (hf : f_mayCastle_53 x1 x2 x3 t0 I A = some o) (hM : mH D cy ci h A0 s H locs I A) (hl : lv_has ls 6 [(0, .ref (h 0)), (1, .int x1), (2, .int x2), (3, .int x3)]) : W p l e ({ frames := 3, cells := 0, slots := 0, locals := 77 } : Room) s m args below meth c H locs 0 0 Q (F0 m 53 ls [.int t0]) := by
  obtain ⟨hx, hb, hml, hown, hts⟩ := id X
  unfold f_mayCastle_53 at hf
  refine lv_istore (lv' := [(4, .int t0), (0, .ref (h 0)), (1, .int x1), (2, .int x2), (3, .int x3)]) hx hb dX12_mayCastle_53 hl (by decide) rfl (fun ls hl => ?_)
  refine lv_iload_n hx hb dX12_mayCastle_55 rfl (lv_at hl 4 rfl) ?_
  refine lv_if_eq (tgt := 72) hx hb dX12_mayCastle_56 (by decide) (fun cc1 => ?_) (fun cc1 => ?_)
  · replace hf := m_ifT hf cc1
    refine lv_aload_n hx hb dX12_mayCastle_72 rfl (lv_at hl 1 rfl) ?_
    refine lv_iload_n hx hb dX12_mayCastle_73 rfl (lv_at hl 3 rfl) ?_
    refine lv_iconst (v := (3 : Int32)) hx hb dX12_mayCastle_74 (by decide) ?_
    refine lv_isub hx hb dX12_mayCastle_75 ?_
    obtain ⟨v1, ev, hf⟩ := m_bndE hf
    refine m_top ev ?_
    clear ev
    refine lv_iload_n hx hb dX12_mayCastle_76 rfl (lv_at hl 3 rfl) ?_
    refine lv_iconst (v := (1 : Int32)) hx hb dX12_mayCastle_77 (by decide) ?_
    refine lv_isub hx hb dX12_mayCastle_78 ?_
    obtain ⟨v2, ev, hf⟩ := m_bndE hf
    refine m_top ev ?_
    clear ev
    obtain ⟨o3, ho, hf⟩ := m_clE hf
    refine m_callVi X hM (c_isClear ho) gX12_mayCastle_X12_isClear rfl ⟨rfl, rfl⟩ hd_isClear ⟨Nat.le_of_ble_eq_true rfl, Nat.le_of_ble_eq_true rfl⟩ rfl hl.1 rfl (Nat.le_of_ble_eq_true rfl) dX12_mayCastle_79 (fun H locs hM => ?_)
    clear ho
    exact w_mayCastle_82 X hret hf hM (lv_sub hl [1, 2, 3, 0] rfl)
  · replace hf := m_ifF hf cc1
    refine lv_aload_n hx hb dX12_mayCastle_59 rfl (lv_at hl 1 rfl) ?_
    refine lv_iload_n hx hb dX12_mayCastle_60 rfl (lv_at hl 3 rfl) ?_
    refine lv_iconst (v := (1 : Int32)) hx hb dX12_mayCastle_61 (by decide) ?_
    refine lv_iadd hx hb dX12_mayCastle_62 ?_
    obtain ⟨v4, ev, hf⟩ := m_bndE hf
    refine m_top ev ?_
    clear ev
    refine lv_iload_n hx hb dX12_mayCastle_63 rfl (lv_at hl 3 rfl) ?_
    refine lv_iconst (v := (2 : Int32)) hx hb dX12_mayCastle_64 (by decide) ?_
    refine lv_iadd hx hb dX12_mayCastle_65 ?_
    obtain ⟨v5, ev, hf⟩ := m_bndE hf
    refine m_top ev ?_
    clear ev
    obtain ⟨o6, ho, hf⟩ := m_clE hf
    refine m_callVi X hM (c_isClear ho) gX12_mayCastle_X12_isClear rfl ⟨rfl, rfl⟩ hd_isClear ⟨Nat.le_of_ble_eq_true rfl, Nat.le_of_ble_eq_true rfl⟩ rfl hl.1 rfl (Nat.le_of_ble_eq_true rfl) dX12_mayCastle_66 (fun H locs hM => ?_)
    clear ho
    refine lv_goto (tgt := 82) hx hb dX12_mayCastle_69 (by decide) ?_
    exact w_mayCastle_82 X hret hf hM (lv_sub hl [1, 2, 3, 0] rfl)
noncomputable def f_mayCastle_40 (x1 : Int32) (x2 : Int32) (x3 : Int32) (t0 : Int32) (t1 : Int32) (t2 : Int32) (I : Nat → Int32) (A : Nat → Nat → Int32) : Option (Int32 × MS) :=
  m_bnd (t1 + t0) (fun v1 =>
  m_bnd (t2 >>> (v1 &&& 31)) (fun v2 =>
  m_bnd (v2 &&& (1 : Int32)) (fun v3 =>
  m_if (v3 = (1 : Int32)) (
  f_mayCastle_53 x1 x2 x3 (1 : Int32) I A
  ) (
  f_mayCastle_53 x1 x2 x3 (0 : Int32) I A
  ))))

set_option maxRecDepth 100000 in
set_option maxHeartbeats 4000000 in
theorem w_mayCastle_40 {p : Program} {l : Launch} {e : Env} {s : State} {m : MethodId} {args : Array Value} {below : List Frame} {meth : Method} {c : Code} {Q : State → Prop} {D : va_G} {cy ci : ClassId} {h : Nat → Nat} {A0 : Nat → Prop} {o : Int32 × MS} (X : CallFix p m c cX12_mayCastle 6 s args wsX12_mayCastle RX12) (hret : mRi p l e ({ frames := 3, cells := 0, slots := 0, locals := 77 } : Room) s m args below meth c Q cX12_mayCastle D cy ci h A0 .boolean o) {x1 : Int32} {x2 : Int32} {x3 : Int32} {t0 : Int32} {t1 : Int32} {t2 : Int32} {I : Nat → Int32} {A : Nat → Nat → Int32} {H : Heap} {locs : List Loc} {ls : Array Slot} (hf : f_mayCastle_40 x1 x2 x3 t0 t1 t2 I A = some o) (hM : mH D cy ci h A0 s H locs I A) (hl : lv_has ls 6 [(0, .ref (h 0)), (1, .int x1), (2, .int x2), (3, .int x3)]) : W p l e ({ frames := 3, cells := 0, slots := 0, locals := 77 } : Room) s m args below meth c H locs 0 0 Q (F0 m 40 ls [.int t0, .int t1, .int t2]) := by
  obtain ⟨hx, hb, hml, hown, hts⟩ := id X
  unfold f_mayCastle_40 at hf
  refine lv_iadd hx hb dX12_mayCastle_40 ?_
  obtain ⟨v1, ev, hf⟩ := m_bndE hf
  refine m_top ev ?_
  clear ev
  refine lv_ishr hx hb dX12_mayCastle_41 ?_
  obtain ⟨v2, ev, hf⟩ := m_bndE hf
  refine m_top ev ?_
  clear ev
  refine lv_iconst (v := (1 : Int32)) hx hb dX12_mayCastle_42 (by decide) ?_
  refine lv_iand hx hb dX12_mayCastle_43 ?_
  obtain ⟨v3, ev, hf⟩ := m_bndE hf
  refine m_top ev ?_
  clear ev
  refine lv_iconst (v := (1 : Int32)) hx hb dX12_mayCastle_44 (by decide) ?_
  refine lv_icmp_ne (tgt := 52) hx hb dX12_mayCastle_45 (by decide) (fun cc1 => ?_) (fun cc1 => ?_)
  · replace hf := m_ifF hf cc1
    refine lv_iconst (v := (0 : Int32)) hx hb dX12_mayCastle_52 (by decide) ?_
    exact w_mayCastle_53 X hret hf hM (lv_sub hl [0, 1, 2, 3] rfl)
  · replace hf := m_ifT hf cc1
    refine lv_iconst (v := (1 : Int32)) hx hb dX12_mayCastle_48 (by decide) ?_
    refine lv_goto (tgt := 53) hx hb dX12_mayCastle_49 (by decide) ?_
    exact w_mayCastle_53 X hret hf hM (lv_sub hl [0, 1, 2, 3] rfl)
noncomputable def f_mayCastle_20 (x1 : Int32) (x2 : Int32) (t0 : Int32) (I : Nat → Int32) (A : Nat → Nat → Int32) : Option (Int32 × MS) :=
  m_bnd ((2 : Int32) * (I 25)) (fun v1 =>
  m_if (t0 = 0) (
  f_mayCastle_40 x1 x2 t0 (1 : Int32) v1 (I 26) I A
  ) (
  f_mayCastle_40 x1 x2 t0 (0 : Int32) v1 (I 26) I A
  ))

set_option maxRecDepth 100000 in
set_option maxHeartbeats 4000000 in
theorem w_mayCastle_20 {p : Program} {l : Launch} {e : Env} {s : State} {m : MethodId} {args : Array Value} {below : List Frame} {meth : Method} {c : Code} {Q : State → Prop} {D : va_G} {cy ci : ClassId} {h : Nat → Nat} {A0 : Nat → Prop} {o : Int32 × MS} (X : CallFix p m c cX12_mayCastle 6 s args wsX12_mayCastle RX12) (hret : mRi p l e ({ frames := 3, cells := 0, slots := 0, locals := 77 } : Room) s m args below meth c Q cX12_mayCastle D cy ci h A0 .boolean o) {x1 : Int32} {x2 : Int32} {t0 : Int32} {I : Nat → Int32} {A : Nat → Nat → Int32} {H : Heap} {locs : List Loc} {ls : Array Slot} (hf : f_mayCastle_20 x1 x2 t0 I A = some o) (hM : mH D cy ci h A0 s H locs I A) (hl : lv_has ls 6 [(0, .ref (h 0)), (1, .int x1), (2, .int x2)]) : W p l e ({ frames := 3, cells := 0, slots := 0, locals := 77 } : Room) s m args below meth c H locs 0 0 Q (F0 m 20 ls [.int t0]) := by
  obtain ⟨hx, hb, hml, hown, hts⟩ := id X
  unfold f_mayCastle_20 at hf
  refine lv_istore_n (lv' := [(3, .int t0), (0, .ref (h 0)), (1, .int x1), (2, .int x2)]) hx hb dX12_mayCastle_20 rfl hl (by decide) rfl (fun ls hl => ?_)
  refine lv_aload_n hx hb dX12_mayCastle_21 rfl (lv_at hl 1 rfl) ?_
  refine m_get (v := .int (I 26)) X hw_mayCastle hM 26 (by decide) fl_mayCastle_26 rfl dX12_mayCastle_22 ?_
  refine lv_iconst (v := (2 : Int32)) hx hb dX12_mayCastle_25 (by decide) ?_
  refine lv_aload_n hx hb dX12_mayCastle_26 rfl (lv_at hl 1 rfl) ?_
  refine m_get (v := .int (I 25)) X hw_mayCastle hM 25 (by decide) fl_mayCastle_25 rfl dX12_mayCastle_27 ?_
  refine lv_imul hx hb dX12_mayCastle_30 ?_
  obtain ⟨v1, ev, hf⟩ := m_bndE hf
  refine m_top ev ?_
  clear ev
  refine lv_iload_n hx hb dX12_mayCastle_31 rfl (lv_at hl 0 rfl) ?_
  refine lv_if_eq (tgt := 39) hx hb dX12_mayCastle_32 (by decide) (fun cc1 => ?_) (fun cc1 => ?_)
  · replace hf := m_ifT hf cc1
    refine lv_iconst (v := (1 : Int32)) hx hb dX12_mayCastle_39 (by decide) ?_
    exact w_mayCastle_40 X hret hf hM (lv_sub hl [1, 2, 3, 0] rfl)
  · replace hf := m_ifF hf cc1
    refine lv_iconst (v := (0 : Int32)) hx hb dX12_mayCastle_35 (by decide) ?_
    refine lv_goto (tgt := 40) hx hb dX12_mayCastle_36 (by decide) ?_
    exact w_mayCastle_40 X hret hf hM (lv_sub hl [1, 2, 3, 0] rfl)
noncomputable def f_mayCastle_0 (x1 : Int32) (I : Nat → Int32) (A : Nat → Nat → Int32) : Option (Int32 × MS) :=
  m_bnd ((56 : Int32) * (I 25)) (fun v1 =>
  m_bnd ((4 : Int32) + v1) (fun v2 =>
  m_if (x1 ≤ v2) (
  f_mayCastle_20 x1 v2 (0 : Int32) I A
  ) (
  f_mayCastle_20 x1 v2 (1 : Int32) I A
  )))

set_option maxRecDepth 100000 in
set_option maxHeartbeats 4000000 in
theorem w_mayCastle_0 {p : Program} {l : Launch} {e : Env} {s : State} {m : MethodId} {args : Array Value} {below : List Frame} {meth : Method} {c : Code} {Q : State → Prop} {D : va_G} {cy ci : ClassId} {h : Nat → Nat} {A0 : Nat → Prop} {o : Int32 × MS} (X : CallFix p m c cX12_mayCastle 6 s args wsX12_mayCastle RX12) (hret : mRi p l e ({ frames := 3, cells := 0, slots := 0, locals := 77 } : Room) s m args below meth c Q cX12_mayCastle D cy ci h A0 .boolean o) {x1 : Int32} {I : Nat → Int32} {A : Nat → Nat → Int32} {H : Heap} {locs : List Loc} {ls : Array Slot} (hf : f_mayCastle_0 x1 I A = some o) (hM : mH D cy ci h A0 s H locs I A) (hl : lv_has ls 6 [(0, .ref (h 0)), (1, .int x1)]) : W p l e ({ frames := 3, cells := 0, slots := 0, locals := 77 } : Room) s m args below meth c H locs 0 0 Q (F0 m 0 ls []) := by
  obtain ⟨hx, hb, hml, hown, hts⟩ := id X
  unfold f_mayCastle_0 at hf
  refine lv_iconst (v := (4 : Int32)) hx hb dX12_mayCastle_0 (by decide) ?_
  refine lv_bipush (v := (56 : Int32)) hx hb dX12_mayCastle_1 (by decide) ?_
  refine lv_aload_n hx hb dX12_mayCastle_3 rfl (lv_at hl 0 rfl) ?_
  refine m_get (v := .int (I 25)) X hw_mayCastle hM 25 (by decide) fl_mayCastle_25 rfl dX12_mayCastle_4 ?_
  refine lv_imul hx hb dX12_mayCastle_7 ?_
  obtain ⟨v1, ev, hf⟩ := m_bndE hf
  refine m_top ev ?_
  clear ev
  refine lv_iadd hx hb dX12_mayCastle_8 ?_
  obtain ⟨v2, ev, hf⟩ := m_bndE hf
  refine m_top ev ?_
  clear ev
  refine lv_istore_n (lv' := [(2, .int v2), (0, .ref (h 0)), (1, .int x1)]) hx hb dX12_mayCastle_9 rfl hl (by decide) rfl (fun ls hl => ?_)
  refine lv_iload_n hx hb dX12_mayCastle_10 rfl (lv_at hl 2 rfl) ?_
  refine lv_iload_n hx hb dX12_mayCastle_11 rfl (lv_at hl 0 rfl) ?_
  refine lv_icmp_le (tgt := 19) hx hb dX12_mayCastle_12 (by decide) (fun cc1 => ?_) (fun cc1 => ?_)
  · replace hf := m_ifT hf cc1
    refine lv_iconst (v := (0 : Int32)) hx hb dX12_mayCastle_19 (by decide) ?_
    exact w_mayCastle_20 X hret hf hM (lv_sub hl [1, 2, 0] rfl)
  · replace hf := m_ifF hf cc1
    refine lv_iconst (v := (1 : Int32)) hx hb dX12_mayCastle_15 (by decide) ?_
    refine lv_goto (tgt := 20) hx hb dX12_mayCastle_16 (by decide) ?_
    exact w_mayCastle_20 X hret hf hM (lv_sub hl [1, 2, 0] rfl)
noncomputable def f_mayCastle (x1 : Int32) (I : Nat → Int32) (A : Nat → Nat → Int32) : Option (Int32 × MS) := f_mayCastle_0 x1 I A
theorem c_mayCastle {l : Launch} {D : va_G} {cy ci : ClassId} {h : Nat → Nat} {x1 : Int32} {I : Nat → Int32} {A : Nat → Nat → Int32} {o : Int32 × MS} (hf : f_mayCastle x1 I A = some o) : mMi l yX12_mayCastle wsX12_mayCastle ({ frames := 3, cells := 0, slots := 0, locals := 77 } : Room) [.ref (h 0), .int x1] D cy ci h I A o :=
  m_entryI (cc := cX12_mayCastle) (maxL := 6) (by decide) rfl rfl (Nat.le_of_ble_eq_true rfl) (fun p e s m args below meth c A0 Q H locs ls X hret hM hl => w_mayCastle_0 X hret hf hM (lv_sub hl [0, 1] rfl))
theorem hw_goes : ∀ w ∈ wsX120, w ∈ wsX12_goes := by decide +kernel
theorem fl_goes_24 : Cond.fieldLink RX12 70 "MoveTextsModel" "men" "[I" ∈ wsX12_goes := by decide +kernel
theorem fl_goes_25 : Cond.fieldLink RX12 121 "MoveTextsModel" "side" "I" ∈ wsX12_goes := by decide +kernel
theorem hd_goes : yX12_goes.cls = RX12 ∧ yX12_goes.cls ≠ "java/lang/invoke/MethodHandle" ∧ yX12_goes.cls ≠ "java/lang/invoke/VarHandle" ∧ (parseMethodDescriptor yX12_goes.desc).map (fun d => d.parameters.length) = some 2 := by decide +kernel
noncomputable def f_goes_37 (I : Nat → Int32) (A : Nat → Nat → Int32) : Option (Int32 × MS) :=
  m_chk (vp_nar .boolean (0 : Int32) = (0 : Int32)) (some ((0 : Int32), (I, A)))

set_option maxRecDepth 100000 in
set_option maxHeartbeats 4000000 in
theorem w_goes_37 {p : Program} {l : Launch} {e : Env} {s : State} {m : MethodId} {args : Array Value} {below : List Frame} {meth : Method} {c : Code} {Q : State → Prop} {D : va_G} {cy ci : ClassId} {h : Nat → Nat} {A0 : Nat → Prop} {o : Int32 × MS} (X : CallFix p m c cX12_goes 11 s args wsX12_goes RX12) (hret : mRi p l e ({ frames := 4, cells := 0, slots := 0, locals := 102 } : Room) s m args below meth c Q cX12_goes D cy ci h A0 .boolean o) {I : Nat → Int32} {A : Nat → Nat → Int32} {H : Heap} {locs : List Loc} {ls : Array Slot} (hf : f_goes_37  I A = some o) (hM : mH D cy ci h A0 s H locs I A) (hl : lv_has ls 11 []) : W p l e ({ frames := 4, cells := 0, slots := 0, locals := 102 } : Room) s m args below meth c H locs 0 0 Q (F0 m 37 ls []) := by
  obtain ⟨hx, hb, hml, hown, hts⟩ := id X
  unfold f_goes_37 at hf
  refine lv_iconst (v := (0 : Int32)) hx hb dX12_goes_37 (by decide) ?_
  obtain ⟨cd, hf⟩ := m_chkE hf
  cases hf
  exact hret H locs _ ls hM (m_nb cd) dX12_goes_38
noncomputable def f_goes_315 (t0 : Int32) (I : Nat → Int32) (A : Nat → Nat → Int32) : Option (Int32 × MS) :=
  m_chk (vp_nar .boolean t0 = t0) (some (t0, (I, A)))

set_option maxRecDepth 100000 in
set_option maxHeartbeats 4000000 in
theorem w_goes_315 {p : Program} {l : Launch} {e : Env} {s : State} {m : MethodId} {args : Array Value} {below : List Frame} {meth : Method} {c : Code} {Q : State → Prop} {D : va_G} {cy ci : ClassId} {h : Nat → Nat} {A0 : Nat → Prop} {o : Int32 × MS} (X : CallFix p m c cX12_goes 11 s args wsX12_goes RX12) (hret : mRi p l e ({ frames := 4, cells := 0, slots := 0, locals := 102 } : Room) s m args below meth c Q cX12_goes D cy ci h A0 .boolean o) {t0 : Int32} {I : Nat → Int32} {A : Nat → Nat → Int32} {H : Heap} {locs : List Loc} {ls : Array Slot} (hf : f_goes_315 t0 I A = some o) (hM : mH D cy ci h A0 s H locs I A) (hl : lv_has ls 11 []) : W p l e ({ frames := 4, cells := 0, slots := 0, locals := 102 } : Room) s m args below meth c H locs 0 0 Q (F0 m 315 ls [.int t0]) := by
  obtain ⟨hx, hb, hml, hown, hts⟩ := id X
  unfold f_goes_315 at hf
  obtain ⟨cd, hf⟩ := m_chkE hf
  cases hf
  exact hret H locs _ ls hM (m_nb cd) dX12_goes_315
noncomputable def f_goes_304 (x2 : Int32) (x10 : Int32) (I : Nat → Int32) (A : Nat → Nat → Int32) : Option (Int32 × MS) :=
  m_if (x10 = x2) (
  f_goes_315 (1 : Int32) I A
  ) (
  f_goes_315 (0 : Int32) I A
  )

set_option maxRecDepth 100000 in
set_option maxHeartbeats 4000000 in
theorem w_goes_304 {p : Program} {l : Launch} {e : Env} {s : State} {m : MethodId} {args : Array Value} {below : List Frame} {meth : Method} {c : Code} {Q : State → Prop} {D : va_G} {cy ci : ClassId} {h : Nat → Nat} {A0 : Nat → Prop} {o : Int32 × MS} (X : CallFix p m c cX12_goes 11 s args wsX12_goes RX12) (hret : mRi p l e ({ frames := 4, cells := 0, slots := 0, locals := 102 } : Room) s m args below meth c Q cX12_goes D cy ci h A0 .boolean o) {x2 : Int32} {x10 : Int32} {I : Nat → Int32} {A : Nat → Nat → Int32} {H : Heap} {locs : List Loc} {ls : Array Slot} (hf : f_goes_304 x2 x10 I A = some o) (hM : mH D cy ci h A0 s H locs I A) (hl : lv_has ls 11 [(2, .int x2), (10, .int x10)]) : W p l e ({ frames := 4, cells := 0, slots := 0, locals := 102 } : Room) s m args below meth c H locs 0 0 Q (F0 m 304 ls []) := by
  obtain ⟨hx, hb, hml, hown, hts⟩ := id X
  unfold f_goes_304 at hf
  refine lv_iload hx hb dX12_goes_304 (lv_at hl 1 rfl) ?_
  refine lv_iload_n hx hb dX12_goes_306 rfl (lv_at hl 0 rfl) ?_
  refine lv_icmp_ne (tgt := 314) hx hb dX12_goes_307 (by decide) (fun cc1 => ?_) (fun cc1 => ?_)
  · replace hf := m_ifF hf cc1
    refine lv_iconst (v := (0 : Int32)) hx hb dX12_goes_314 (by decide) ?_
    exact w_goes_315 X hret hf hM (lv_sub hl [] rfl)
  · replace hf := m_ifT hf cc1
    refine lv_iconst (v := (1 : Int32)) hx hb dX12_goes_310 (by decide) ?_
    refine lv_goto (tgt := 315) hx hb dX12_goes_311 (by decide) ?_
    exact w_goes_315 X hret hf hM (lv_sub hl [] rfl)
noncomputable def f_goes_274s (self274 : Int32 → Int32 → Int32 → Int32 → (Nat → Int32) → (Nat → Nat → Int32) → Option (Int32 × MS)) (x2 : Int32) (x8 : Int32) (x9 : Int32) (x10 : Int32) (I : Nat → Int32) (A : Nat → Nat → Int32) : Option (Int32 × MS) :=
  m_if (x10 = x2) (
  f_goes_304 x2 x10 I A
  ) (
  m_chk (¬ (x10 < 0 ∨ 64 ≤ (x10).toNatClampNeg)) (
  m_bnd (A 24 (x10).toNatClampNeg) (fun v1 =>
  m_if (v1 = 0) (
  m_cl (f_step x10 x8 x9 I A) (fun r2 Ic2 Ac2 =>
  self274 x2 x8 x9 r2 Ic2 Ac2)
  ) (
  f_goes_304 x2 x10 I A
  )))
  )

set_option maxRecDepth 100000 in
set_option maxHeartbeats 4000000 in
theorem ws_goes_274 {p : Program} {l : Launch} {e : Env} {s : State} {m : MethodId} {args : Array Value} {below : List Frame} {meth : Method} {c : Code} {Q : State → Prop} {D : va_G} {cy ci : ClassId} {h : Nat → Nat} {A0 : Nat → Prop} {o : Int32 × MS} (X : CallFix p m c cX12_goes 11 s args wsX12_goes RX12) (hret : mRi p l e ({ frames := 4, cells := 0, slots := 0, locals := 102 } : Room) s m args below meth c Q cX12_goes D cy ci h A0 .boolean o) {self274 : Int32 → Int32 → Int32 → Int32 → (Nat → Int32) → (Nat → Nat → Int32) → Option (Int32 × MS)} (hself274 : ∀ (x2 : Int32) (x8 : Int32) (x9 : Int32) (x10 : Int32) (I : Nat → Int32) (A : Nat → Nat → Int32) (H : Heap) (locs : List Loc) (ls : Array Slot), self274 x2 x8 x9 x10 I A = some o → mH D cy ci h A0 s H locs I A → lv_has ls 11 [(0, .ref (h 0)), (2, .int x2), (8, .int x8), (9, .int x9), (10, .int x10)] → W p l e ({ frames := 4, cells := 0, slots := 0, locals := 102 } : Room) s m args below meth c H locs 0 0 Q (F0 m 274 ls [])) {x2 : Int32} {x8 : Int32} {x9 : Int32} {x10 : Int32} {I : Nat → Int32} {A : Nat → Nat → Int32} {H : Heap} {locs : List Loc} {ls : Array Slot} (hf : f_goes_274s self274 x2 x8 x9 x10 I A = some o) (hM : mH D cy ci h A0 s H locs I A) (hl : lv_has ls 11 [(0, .ref (h 0)), (2, .int x2), (8, .int x8), (9, .int x9), (10, .int x10)]) : W p l e ({ frames := 4, cells := 0, slots := 0, locals := 102 } : Room) s m args below meth c H locs 0 0 Q (F0 m 274 ls []) := by
  obtain ⟨hx, hb, hml, hown, hts⟩ := id X
  unfold f_goes_274s at hf
  refine lv_iload hx hb dX12_goes_274 (lv_at hl 4 rfl) ?_
  refine lv_iload_n hx hb dX12_goes_276 rfl (lv_at hl 1 rfl) ?_
  refine lv_icmp_eq (tgt := 304) hx hb dX12_goes_277 (by decide) (fun cc1 => ?_) (fun cc1 => ?_)
  · replace hf := m_ifT hf cc1
    exact w_goes_304 X hret hf hM (lv_sub hl [1, 4] rfl)
  · replace hf := m_ifF hf cc1
    refine lv_aload_n hx hb dX12_goes_280 rfl (lv_at hl 0 rfl) ?_
    refine m_get (v := .ref (h 24)) X hw_goes hM 24 (by decide) fl_goes_24 rfl dX12_goes_281 ?_
    refine lv_iload hx hb dX12_goes_284 (lv_at hl 4 rfl) ?_
    obtain ⟨cd, hf⟩ := m_chkE hf
    refine m_iald X hM 24 20 64 rfl cd dX12_goes_286 ?_
    clear cd
    obtain ⟨v1, ev, hf⟩ := m_bndE hf
    refine m_top ev ?_
    clear ev
    refine lv_if_ne (tgt := 304) hx hb dX12_goes_287 (by decide) (fun cc1 => ?_) (fun cc1 => ?_)
    · replace hf := m_ifF hf cc1
      exact w_goes_304 X hret hf hM (lv_sub hl [1, 4] rfl)
    · replace hf := m_ifT hf cc1
      refine lv_iload hx hb dX12_goes_290 (lv_at hl 4 rfl) ?_
      refine lv_iload hx hb dX12_goes_292 (lv_at hl 2 rfl) ?_
      refine lv_iload hx hb dX12_goes_294 (lv_at hl 3 rfl) ?_
      obtain ⟨o2, ho, hf⟩ := m_clE hf
      refine m_callSi X hM (c_step ho) gX12_goes_X12_step rfl ⟨rfl, rfl⟩ hd_step ⟨Nat.le_of_ble_eq_true rfl, Nat.le_of_ble_eq_true rfl⟩ rfl hl.1 rfl (Nat.le_of_ble_eq_true rfl) dX12_goes_296 (fun H locs hM => ?_)
      clear ho
      refine lv_istore (lv' := [(10, .int o2.1), (0, .ref (h 0)), (2, .int x2), (8, .int x8), (9, .int x9)]) hx hb dX12_goes_299 hl (by decide) rfl (fun ls hl => ?_)
      refine lv_goto (tgt := 274) hx hb dX12_goes_301 (by decide) ?_
      exact hself274 _ _ _ _ _ _ _ _ _ hf hM (lv_sub hl [1, 2, 3, 4, 0] rfl)
noncomputable def f_goes_274 : Nat → Int32 → Int32 → Int32 → Int32 → (Nat → Int32) → (Nat → Nat → Int32) → Option (Int32 × MS)
  | 0 => fun _ _ _ _ _ _ => none
  | n + 1 => f_goes_274s (f_goes_274 n)
theorem w_goes_274 {p : Program} {l : Launch} {e : Env} {s : State} {m : MethodId} {args : Array Value} {below : List Frame} {meth : Method} {c : Code} {Q : State → Prop} {D : va_G} {cy ci : ClassId} {h : Nat → Nat} {A0 : Nat → Prop} {o : Int32 × MS} (X : CallFix p m c cX12_goes 11 s args wsX12_goes RX12) (hret : mRi p l e ({ frames := 4, cells := 0, slots := 0, locals := 102 } : Room) s m args below meth c Q cX12_goes D cy ci h A0 .boolean o) (n : Nat) : ∀ (x2 : Int32) (x8 : Int32) (x9 : Int32) (x10 : Int32) (I : Nat → Int32) (A : Nat → Nat → Int32) (H : Heap) (locs : List Loc) (ls : Array Slot), f_goes_274 n x2 x8 x9 x10 I A = some o → mH D cy ci h A0 s H locs I A → lv_has ls 11 [(0, .ref (h 0)), (2, .int x2), (8, .int x8), (9, .int x9), (10, .int x10)] → W p l e ({ frames := 4, cells := 0, slots := 0, locals := 102 } : Room) s m args below meth c H locs 0 0 Q (F0 m 274 ls []) := by
  induction n with
  | zero => intro x2 x8 x9 x10 I A H locs ls hf; cases hf
  | succ n ih => intro x2 x8 x9 x10 I A H locs ls hf hM hl; exact ws_goes_274 X hret (self274 := f_goes_274 n) ih hf hM hl
noncomputable def f_goes_262 (x1 : Int32) (x2 : Int32) (x8 : Int32) (t0 : Int32) (I : Nat → Int32) (A : Nat → Nat → Int32) : Option (Int32 × MS) :=
  m_cl (f_step x1 x8 t0 I A) (fun r1 Ic1 Ac1 =>
  f_goes_274 mFuel x2 x8 t0 r1 Ic1 Ac1)

set_option maxRecDepth 100000 in
set_option maxHeartbeats 4000000 in
theorem w_goes_262 {p : Program} {l : Launch} {e : Env} {s : State} {m : MethodId} {args : Array Value} {below : List Frame} {meth : Method} {c : Code} {Q : State → Prop} {D : va_G} {cy ci : ClassId} {h : Nat → Nat} {A0 : Nat → Prop} {o : Int32 × MS} (X : CallFix p m c cX12_goes 11 s args wsX12_goes RX12) (hret : mRi p l e ({ frames := 4, cells := 0, slots := 0, locals := 102 } : Room) s m args below meth c Q cX12_goes D cy ci h A0 .boolean o) {x1 : Int32} {x2 : Int32} {x8 : Int32} {t0 : Int32} {I : Nat → Int32} {A : Nat → Nat → Int32} {H : Heap} {locs : List Loc} {ls : Array Slot} (hf : f_goes_262 x1 x2 x8 t0 I A = some o) (hM : mH D cy ci h A0 s H locs I A) (hl : lv_has ls 11 [(0, .ref (h 0)), (1, .int x1), (2, .int x2), (8, .int x8)]) : W p l e ({ frames := 4, cells := 0, slots := 0, locals := 102 } : Room) s m args below meth c H locs 0 0 Q (F0 m 262 ls [.int t0]) := by
  obtain ⟨hx, hb, hml, hown, hts⟩ := id X
  unfold f_goes_262 at hf
  refine lv_istore (lv' := [(9, .int t0), (0, .ref (h 0)), (1, .int x1), (2, .int x2), (8, .int x8)]) hx hb dX12_goes_262 hl (by decide) rfl (fun ls hl => ?_)
  refine lv_iload_n hx hb dX12_goes_264 rfl (lv_at hl 2 rfl) ?_
  refine lv_iload hx hb dX12_goes_265 (lv_at hl 4 rfl) ?_
  refine lv_iload hx hb dX12_goes_267 (lv_at hl 0 rfl) ?_
  obtain ⟨o1, ho, hf⟩ := m_clE hf
  refine m_callSi X hM (c_step ho) gX12_goes_X12_step rfl ⟨rfl, rfl⟩ hd_step ⟨Nat.le_of_ble_eq_true rfl, Nat.le_of_ble_eq_true rfl⟩ rfl hl.1 rfl (Nat.le_of_ble_eq_true rfl) dX12_goes_269 (fun H locs hM => ?_)
  clear ho
  refine lv_istore (lv' := [(10, .int o1.1), (9, .int t0), (0, .ref (h 0)), (1, .int x1), (2, .int x2), (8, .int x8)]) hx hb dX12_goes_272 hl (by decide) rfl (fun ls hl => ?_)
  exact w_goes_274 X hret _ _ _ _ _ _ _ _ _ _ hf hM (lv_sub hl [2, 4, 5, 1, 0] rfl)
noncomputable def f_goes_241 (x1 : Int32) (x2 : Int32) (x5 : Int32) (t0 : Int32) (I : Nat → Int32) (A : Nat → Nat → Int32) : Option (Int32 × MS) :=
  m_if (x5 ≤ 0) (
  m_if (0 ≤ x5) (
  f_goes_262 x1 x2 t0 (0 : Int32) I A
  ) (
  f_goes_262 x1 x2 t0 (-1 : Int32) I A
  )
  ) (
  f_goes_262 x1 x2 t0 (1 : Int32) I A
  )

set_option maxRecDepth 100000 in
set_option maxHeartbeats 4000000 in
theorem w_goes_241 {p : Program} {l : Launch} {e : Env} {s : State} {m : MethodId} {args : Array Value} {below : List Frame} {meth : Method} {c : Code} {Q : State → Prop} {D : va_G} {cy ci : ClassId} {h : Nat → Nat} {A0 : Nat → Prop} {o : Int32 × MS} (X : CallFix p m c cX12_goes 11 s args wsX12_goes RX12) (hret : mRi p l e ({ frames := 4, cells := 0, slots := 0, locals := 102 } : Room) s m args below meth c Q cX12_goes D cy ci h A0 .boolean o) {x1 : Int32} {x2 : Int32} {x5 : Int32} {t0 : Int32} {I : Nat → Int32} {A : Nat → Nat → Int32} {H : Heap} {locs : List Loc} {ls : Array Slot} (hf : f_goes_241 x1 x2 x5 t0 I A = some o) (hM : mH D cy ci h A0 s H locs I A) (hl : lv_has ls 11 [(0, .ref (h 0)), (1, .int x1), (2, .int x2), (5, .int x5)]) : W p l e ({ frames := 4, cells := 0, slots := 0, locals := 102 } : Room) s m args below meth c H locs 0 0 Q (F0 m 241 ls [.int t0]) := by
  obtain ⟨hx, hb, hml, hown, hts⟩ := id X
  unfold f_goes_241 at hf
  refine lv_istore (lv' := [(8, .int t0), (0, .ref (h 0)), (1, .int x1), (2, .int x2), (5, .int x5)]) hx hb dX12_goes_241 hl (by decide) rfl (fun ls hl => ?_)
  refine lv_iload hx hb dX12_goes_243 (lv_at hl 4 rfl) ?_
  refine lv_if_le (tgt := 252) hx hb dX12_goes_245 (by decide) (fun cc1 => ?_) (fun cc1 => ?_)
  · replace hf := m_ifT hf cc1
    refine lv_iload hx hb dX12_goes_252 (lv_at hl 4 rfl) ?_
    refine lv_if_ge (tgt := 261) hx hb dX12_goes_254 (by decide) (fun cc1 => ?_) (fun cc1 => ?_)
    · replace hf := m_ifT hf cc1
      refine lv_iconst (v := (0 : Int32)) hx hb dX12_goes_261 (by decide) ?_
      exact w_goes_262 X hret hf hM (lv_sub hl [1, 2, 3, 0] rfl)
    · replace hf := m_ifF hf cc1
      refine lv_iconst (v := (-1 : Int32)) hx hb dX12_goes_257 (by decide) ?_
      refine lv_goto (tgt := 262) hx hb dX12_goes_258 (by decide) ?_
      exact w_goes_262 X hret hf hM (lv_sub hl [1, 2, 3, 0] rfl)
  · replace hf := m_ifF hf cc1
    refine lv_iconst (v := (1 : Int32)) hx hb dX12_goes_248 (by decide) ?_
    refine lv_goto (tgt := 262) hx hb dX12_goes_249 (by decide) ?_
    exact w_goes_262 X hret hf hM (lv_sub hl [1, 2, 3, 0] rfl)
noncomputable def f_goes_222 (x1 : Int32) (x2 : Int32) (x4 : Int32) (x5 : Int32) (I : Nat → Int32) (A : Nat → Nat → Int32) : Option (Int32 × MS) :=
  m_if (x4 ≤ 0) (
  m_if (0 ≤ x4) (
  f_goes_241 x1 x2 x5 (0 : Int32) I A
  ) (
  f_goes_241 x1 x2 x5 (-1 : Int32) I A
  )
  ) (
  f_goes_241 x1 x2 x5 (1 : Int32) I A
  )

set_option maxRecDepth 100000 in
set_option maxHeartbeats 4000000 in
theorem w_goes_222 {p : Program} {l : Launch} {e : Env} {s : State} {m : MethodId} {args : Array Value} {below : List Frame} {meth : Method} {c : Code} {Q : State → Prop} {D : va_G} {cy ci : ClassId} {h : Nat → Nat} {A0 : Nat → Prop} {o : Int32 × MS} (X : CallFix p m c cX12_goes 11 s args wsX12_goes RX12) (hret : mRi p l e ({ frames := 4, cells := 0, slots := 0, locals := 102 } : Room) s m args below meth c Q cX12_goes D cy ci h A0 .boolean o) {x1 : Int32} {x2 : Int32} {x4 : Int32} {x5 : Int32} {I : Nat → Int32} {A : Nat → Nat → Int32} {H : Heap} {locs : List Loc} {ls : Array Slot} (hf : f_goes_222 x1 x2 x4 x5 I A = some o) (hM : mH D cy ci h A0 s H locs I A) (hl : lv_has ls 11 [(0, .ref (h 0)), (1, .int x1), (2, .int x2), (4, .int x4), (5, .int x5)]) : W p l e ({ frames := 4, cells := 0, slots := 0, locals := 102 } : Room) s m args below meth c H locs 0 0 Q (F0 m 222 ls []) := by
  obtain ⟨hx, hb, hml, hown, hts⟩ := id X
  unfold f_goes_222 at hf
  refine lv_iload hx hb dX12_goes_222 (lv_at hl 3 rfl) ?_
  refine lv_if_le (tgt := 231) hx hb dX12_goes_224 (by decide) (fun cc1 => ?_) (fun cc1 => ?_)
  · replace hf := m_ifT hf cc1
    refine lv_iload hx hb dX12_goes_231 (lv_at hl 3 rfl) ?_
    refine lv_if_ge (tgt := 240) hx hb dX12_goes_233 (by decide) (fun cc1 => ?_) (fun cc1 => ?_)
    · replace hf := m_ifT hf cc1
      refine lv_iconst (v := (0 : Int32)) hx hb dX12_goes_240 (by decide) ?_
      exact w_goes_241 X hret hf hM (lv_sub hl [0, 1, 2, 4] rfl)
    · replace hf := m_ifF hf cc1
      refine lv_iconst (v := (-1 : Int32)) hx hb dX12_goes_236 (by decide) ?_
      refine lv_goto (tgt := 241) hx hb dX12_goes_237 (by decide) ?_
      exact w_goes_241 X hret hf hM (lv_sub hl [0, 1, 2, 4] rfl)
  · replace hf := m_ifF hf cc1
    refine lv_iconst (v := (1 : Int32)) hx hb dX12_goes_227 (by decide) ?_
    refine lv_goto (tgt := 241) hx hb dX12_goes_228 (by decide) ?_
    exact w_goes_241 X hret hf hM (lv_sub hl [0, 1, 2, 4] rfl)
noncomputable def f_goes_220 (I : Nat → Int32) (A : Nat → Nat → Int32) : Option (Int32 × MS) :=
  m_chk (vp_nar .boolean (0 : Int32) = (0 : Int32)) (some ((0 : Int32), (I, A)))

set_option maxRecDepth 100000 in
set_option maxHeartbeats 4000000 in
theorem w_goes_220 {p : Program} {l : Launch} {e : Env} {s : State} {m : MethodId} {args : Array Value} {below : List Frame} {meth : Method} {c : Code} {Q : State → Prop} {D : va_G} {cy ci : ClassId} {h : Nat → Nat} {A0 : Nat → Prop} {o : Int32 × MS} (X : CallFix p m c cX12_goes 11 s args wsX12_goes RX12) (hret : mRi p l e ({ frames := 4, cells := 0, slots := 0, locals := 102 } : Room) s m args below meth c Q cX12_goes D cy ci h A0 .boolean o) {I : Nat → Int32} {A : Nat → Nat → Int32} {H : Heap} {locs : List Loc} {ls : Array Slot} (hf : f_goes_220  I A = some o) (hM : mH D cy ci h A0 s H locs I A) (hl : lv_has ls 11 []) : W p l e ({ frames := 4, cells := 0, slots := 0, locals := 102 } : Room) s m args below meth c H locs 0 0 Q (F0 m 220 ls []) := by
  obtain ⟨hx, hb, hml, hown, hts⟩ := id X
  unfold f_goes_220 at hf
  refine lv_iconst (v := (0 : Int32)) hx hb dX12_goes_220 (by decide) ?_
  obtain ⟨cd, hf⟩ := m_chkE hf
  cases hf
  exact hret H locs _ ls hM (m_nb cd) dX12_goes_221
noncomputable def f_goes_210 (x1 : Int32) (x2 : Int32) (x3 : Int32) (x4 : Int32) (x5 : Int32) (x7 : Int32) (I : Nat → Int32) (A : Nat → Nat → Int32) : Option (Int32 × MS) :=
  m_if (x7 = 0) (
  m_if (x3 = (4 : Int32)) (
  f_goes_220  I A
  ) (
  f_goes_222 x1 x2 x4 x5 I A
  )
  ) (
  f_goes_222 x1 x2 x4 x5 I A
  )

set_option maxRecDepth 100000 in
set_option maxHeartbeats 4000000 in
theorem w_goes_210 {p : Program} {l : Launch} {e : Env} {s : State} {m : MethodId} {args : Array Value} {below : List Frame} {meth : Method} {c : Code} {Q : State → Prop} {D : va_G} {cy ci : ClassId} {h : Nat → Nat} {A0 : Nat → Prop} {o : Int32 × MS} (X : CallFix p m c cX12_goes 11 s args wsX12_goes RX12) (hret : mRi p l e ({ frames := 4, cells := 0, slots := 0, locals := 102 } : Room) s m args below meth c Q cX12_goes D cy ci h A0 .boolean o) {x1 : Int32} {x2 : Int32} {x3 : Int32} {x4 : Int32} {x5 : Int32} {x7 : Int32} {I : Nat → Int32} {A : Nat → Nat → Int32} {H : Heap} {locs : List Loc} {ls : Array Slot} (hf : f_goes_210 x1 x2 x3 x4 x5 x7 I A = some o) (hM : mH D cy ci h A0 s H locs I A) (hl : lv_has ls 11 [(0, .ref (h 0)), (1, .int x1), (2, .int x2), (3, .int x3), (4, .int x4), (5, .int x5), (7, .int x7)]) : W p l e ({ frames := 4, cells := 0, slots := 0, locals := 102 } : Room) s m args below meth c H locs 0 0 Q (F0 m 210 ls []) := by
  obtain ⟨hx, hb, hml, hown, hts⟩ := id X
  unfold f_goes_210 at hf
  refine lv_iload hx hb dX12_goes_210 (lv_at hl 6 rfl) ?_
  refine lv_if_ne (tgt := 222) hx hb dX12_goes_212 (by decide) (fun cc1 => ?_) (fun cc1 => ?_)
  · replace hf := m_ifF hf cc1
    exact w_goes_222 X hret hf hM (lv_sub hl [0, 1, 2, 4, 5] rfl)
  · replace hf := m_ifT hf cc1
    refine lv_iload_n hx hb dX12_goes_215 rfl (lv_at hl 3 rfl) ?_
    refine lv_iconst (v := (4 : Int32)) hx hb dX12_goes_216 (by decide) ?_
    refine lv_icmp_ne (tgt := 222) hx hb dX12_goes_217 (by decide) (fun cc1 => ?_) (fun cc1 => ?_)
    · replace hf := m_ifF hf cc1
      exact w_goes_222 X hret hf hM (lv_sub hl [0, 1, 2, 4, 5] rfl)
    · replace hf := m_ifT hf cc1
      exact w_goes_220 X hret hf hM (lv_sub hl [] rfl)
noncomputable def f_goes_200 (x1 : Int32) (x2 : Int32) (x3 : Int32) (x4 : Int32) (x5 : Int32) (x7 : Int32) (I : Nat → Int32) (A : Nat → Nat → Int32) : Option (Int32 × MS) :=
  m_if (x7 = 0) (
  f_goes_210 x1 x2 x3 x4 x5 x7 I A
  ) (
  m_if (x3 = (3 : Int32)) (
  f_goes_220  I A
  ) (
  f_goes_210 x1 x2 x3 x4 x5 x7 I A
  )
  )

set_option maxRecDepth 100000 in
set_option maxHeartbeats 4000000 in
theorem w_goes_200 {p : Program} {l : Launch} {e : Env} {s : State} {m : MethodId} {args : Array Value} {below : List Frame} {meth : Method} {c : Code} {Q : State → Prop} {D : va_G} {cy ci : ClassId} {h : Nat → Nat} {A0 : Nat → Prop} {o : Int32 × MS} (X : CallFix p m c cX12_goes 11 s args wsX12_goes RX12) (hret : mRi p l e ({ frames := 4, cells := 0, slots := 0, locals := 102 } : Room) s m args below meth c Q cX12_goes D cy ci h A0 .boolean o) {x1 : Int32} {x2 : Int32} {x3 : Int32} {x4 : Int32} {x5 : Int32} {x7 : Int32} {I : Nat → Int32} {A : Nat → Nat → Int32} {H : Heap} {locs : List Loc} {ls : Array Slot} (hf : f_goes_200 x1 x2 x3 x4 x5 x7 I A = some o) (hM : mH D cy ci h A0 s H locs I A) (hl : lv_has ls 11 [(0, .ref (h 0)), (1, .int x1), (2, .int x2), (3, .int x3), (4, .int x4), (5, .int x5), (7, .int x7)]) : W p l e ({ frames := 4, cells := 0, slots := 0, locals := 102 } : Room) s m args below meth c H locs 0 0 Q (F0 m 200 ls []) := by
  obtain ⟨hx, hb, hml, hown, hts⟩ := id X
  unfold f_goes_200 at hf
  refine lv_iload hx hb dX12_goes_200 (lv_at hl 6 rfl) ?_
  refine lv_if_eq (tgt := 210) hx hb dX12_goes_202 (by decide) (fun cc1 => ?_) (fun cc1 => ?_)
  · replace hf := m_ifT hf cc1
    exact w_goes_210 X hret hf hM (lv_sub hl [0, 1, 2, 3, 4, 5, 6] rfl)
  · replace hf := m_ifF hf cc1
    refine lv_iload_n hx hb dX12_goes_205 rfl (lv_at hl 3 rfl) ?_
    refine lv_iconst (v := (3 : Int32)) hx hb dX12_goes_206 (by decide) ?_
    refine lv_icmp_eq (tgt := 220) hx hb dX12_goes_207 (by decide) (fun cc1 => ?_) (fun cc1 => ?_)
    · replace hf := m_ifT hf cc1
      exact w_goes_220 X hret hf hM (lv_sub hl [] rfl)
    · replace hf := m_ifF hf cc1
      exact w_goes_210 X hret hf hM (lv_sub hl [0, 1, 2, 3, 4, 5, 6] rfl)
noncomputable def f_goes_178 (x1 : Int32) (x2 : Int32) (x3 : Int32) (x4 : Int32) (x5 : Int32) (t0 : Int32) (I : Nat → Int32) (A : Nat → Nat → Int32) : Option (Int32 × MS) :=
  m_if (t0 = 0) (
  m_if (x4 = x5) (
  f_goes_200 x1 x2 x3 x4 x5 t0 I A
  ) (
  m_bnd (-x5) (fun v1 =>
  m_if (x4 = v1) (
  f_goes_200 x1 x2 x3 x4 x5 t0 I A
  ) (
  f_goes_220  I A
  ))
  )
  ) (
  f_goes_200 x1 x2 x3 x4 x5 t0 I A
  )

set_option maxRecDepth 100000 in
set_option maxHeartbeats 4000000 in
theorem w_goes_178 {p : Program} {l : Launch} {e : Env} {s : State} {m : MethodId} {args : Array Value} {below : List Frame} {meth : Method} {c : Code} {Q : State → Prop} {D : va_G} {cy ci : ClassId} {h : Nat → Nat} {A0 : Nat → Prop} {o : Int32 × MS} (X : CallFix p m c cX12_goes 11 s args wsX12_goes RX12) (hret : mRi p l e ({ frames := 4, cells := 0, slots := 0, locals := 102 } : Room) s m args below meth c Q cX12_goes D cy ci h A0 .boolean o) {x1 : Int32} {x2 : Int32} {x3 : Int32} {x4 : Int32} {x5 : Int32} {t0 : Int32} {I : Nat → Int32} {A : Nat → Nat → Int32} {H : Heap} {locs : List Loc} {ls : Array Slot} (hf : f_goes_178 x1 x2 x3 x4 x5 t0 I A = some o) (hM : mH D cy ci h A0 s H locs I A) (hl : lv_has ls 11 [(0, .ref (h 0)), (1, .int x1), (2, .int x2), (3, .int x3), (4, .int x4), (5, .int x5)]) : W p l e ({ frames := 4, cells := 0, slots := 0, locals := 102 } : Room) s m args below meth c H locs 0 0 Q (F0 m 178 ls [.int t0]) := by
  obtain ⟨hx, hb, hml, hown, hts⟩ := id X
  unfold f_goes_178 at hf
  refine lv_istore (lv' := [(7, .int t0), (0, .ref (h 0)), (1, .int x1), (2, .int x2), (3, .int x3), (4, .int x4), (5, .int x5)]) hx hb dX12_goes_178 hl (by decide) rfl (fun ls hl => ?_)
  refine lv_iload hx hb dX12_goes_180 (lv_at hl 0 rfl) ?_
  refine lv_if_ne (tgt := 200) hx hb dX12_goes_182 (by decide) (fun cc1 => ?_) (fun cc1 => ?_)
  · replace hf := m_ifF hf cc1
    exact w_goes_200 X hret hf hM (lv_sub hl [1, 2, 3, 4, 5, 6, 0] rfl)
  · replace hf := m_ifT hf cc1
    refine lv_iload hx hb dX12_goes_185 (lv_at hl 5 rfl) ?_
    refine lv_iload hx hb dX12_goes_187 (lv_at hl 6 rfl) ?_
    refine lv_icmp_eq (tgt := 200) hx hb dX12_goes_189 (by decide) (fun cc1 => ?_) (fun cc1 => ?_)
    · replace hf := m_ifT hf cc1
      exact w_goes_200 X hret hf hM (lv_sub hl [1, 2, 3, 4, 5, 6, 0] rfl)
    · replace hf := m_ifF hf cc1
      refine lv_iload hx hb dX12_goes_192 (lv_at hl 5 rfl) ?_
      refine lv_iload hx hb dX12_goes_194 (lv_at hl 6 rfl) ?_
      refine lv_ineg hx hb dX12_goes_196 ?_
      obtain ⟨v1, ev, hf⟩ := m_bndE hf
      refine m_top ev ?_
      clear ev
      refine lv_icmp_ne (tgt := 220) hx hb dX12_goes_197 (by decide) (fun cc1 => ?_) (fun cc1 => ?_)
      · replace hf := m_ifF hf cc1
        exact w_goes_220 X hret hf hM (lv_sub hl [] rfl)
      · replace hf := m_ifT hf cc1
        exact w_goes_200 X hret hf hM (lv_sub hl [1, 2, 3, 4, 5, 6, 0] rfl)
noncomputable def f_goes_173 (x1 : Int32) (x2 : Int32) (x3 : Int32) (x4 : Int32) (x5 : Int32) (I : Nat → Int32) (A : Nat → Nat → Int32) : Option (Int32 × MS) :=
  f_goes_178 x1 x2 x3 x4 x5 (1 : Int32) I A

set_option maxRecDepth 100000 in
set_option maxHeartbeats 4000000 in
theorem w_goes_173 {p : Program} {l : Launch} {e : Env} {s : State} {m : MethodId} {args : Array Value} {below : List Frame} {meth : Method} {c : Code} {Q : State → Prop} {D : va_G} {cy ci : ClassId} {h : Nat → Nat} {A0 : Nat → Prop} {o : Int32 × MS} (X : CallFix p m c cX12_goes 11 s args wsX12_goes RX12) (hret : mRi p l e ({ frames := 4, cells := 0, slots := 0, locals := 102 } : Room) s m args below meth c Q cX12_goes D cy ci h A0 .boolean o) {x1 : Int32} {x2 : Int32} {x3 : Int32} {x4 : Int32} {x5 : Int32} {I : Nat → Int32} {A : Nat → Nat → Int32} {H : Heap} {locs : List Loc} {ls : Array Slot} (hf : f_goes_173 x1 x2 x3 x4 x5 I A = some o) (hM : mH D cy ci h A0 s H locs I A) (hl : lv_has ls 11 [(0, .ref (h 0)), (1, .int x1), (2, .int x2), (3, .int x3), (4, .int x4), (5, .int x5)]) : W p l e ({ frames := 4, cells := 0, slots := 0, locals := 102 } : Room) s m args below meth c H locs 0 0 Q (F0 m 173 ls []) := by
  obtain ⟨hx, hb, hml, hown, hts⟩ := id X
  unfold f_goes_173 at hf
  refine lv_iconst (v := (1 : Int32)) hx hb dX12_goes_173 (by decide) ?_
  refine lv_goto (tgt := 178) hx hb dX12_goes_174 (by decide) ?_
  exact w_goes_178 X hret hf hM (lv_sub hl [0, 1, 2, 3, 4, 5] rfl)
noncomputable def f_goes_162 (t0 : Int32) (I : Nat → Int32) (A : Nat → Nat → Int32) : Option (Int32 × MS) :=
  m_chk (vp_nar .boolean t0 = t0) (some (t0, (I, A)))

set_option maxRecDepth 100000 in
set_option maxHeartbeats 4000000 in
theorem w_goes_162 {p : Program} {l : Launch} {e : Env} {s : State} {m : MethodId} {args : Array Value} {below : List Frame} {meth : Method} {c : Code} {Q : State → Prop} {D : va_G} {cy ci : ClassId} {h : Nat → Nat} {A0 : Nat → Prop} {o : Int32 × MS} (X : CallFix p m c cX12_goes 11 s args wsX12_goes RX12) (hret : mRi p l e ({ frames := 4, cells := 0, slots := 0, locals := 102 } : Room) s m args below meth c Q cX12_goes D cy ci h A0 .boolean o) {t0 : Int32} {I : Nat → Int32} {A : Nat → Nat → Int32} {H : Heap} {locs : List Loc} {ls : Array Slot} (hf : f_goes_162 t0 I A = some o) (hM : mH D cy ci h A0 s H locs I A) (hl : lv_has ls 11 []) : W p l e ({ frames := 4, cells := 0, slots := 0, locals := 102 } : Room) s m args below meth c H locs 0 0 Q (F0 m 162 ls [.int t0]) := by
  obtain ⟨hx, hb, hml, hown, hts⟩ := id X
  unfold f_goes_162 at hf
  obtain ⟨cd, hf⟩ := m_chkE hf
  cases hf
  exact hret H locs _ ls hM (m_nb cd) dX12_goes_162
noncomputable def f_goes_157 (I : Nat → Int32) (A : Nat → Nat → Int32) : Option (Int32 × MS) :=
  f_goes_162 (1 : Int32) I A

set_option maxRecDepth 100000 in
set_option maxHeartbeats 4000000 in
theorem w_goes_157 {p : Program} {l : Launch} {e : Env} {s : State} {m : MethodId} {args : Array Value} {below : List Frame} {meth : Method} {c : Code} {Q : State → Prop} {D : va_G} {cy ci : ClassId} {h : Nat → Nat} {A0 : Nat → Prop} {o : Int32 × MS} (X : CallFix p m c cX12_goes 11 s args wsX12_goes RX12) (hret : mRi p l e ({ frames := 4, cells := 0, slots := 0, locals := 102 } : Room) s m args below meth c Q cX12_goes D cy ci h A0 .boolean o) {I : Nat → Int32} {A : Nat → Nat → Int32} {H : Heap} {locs : List Loc} {ls : Array Slot} (hf : f_goes_157  I A = some o) (hM : mH D cy ci h A0 s H locs I A) (hl : lv_has ls 11 []) : W p l e ({ frames := 4, cells := 0, slots := 0, locals := 102 } : Room) s m args below meth c H locs 0 0 Q (F0 m 157 ls []) := by
  obtain ⟨hx, hb, hml, hown, hts⟩ := id X
  unfold f_goes_157 at hf
  refine lv_iconst (v := (1 : Int32)) hx hb dX12_goes_157 (by decide) ?_
  refine lv_goto (tgt := 162) hx hb dX12_goes_158 (by decide) ?_
  exact w_goes_162 X hret hf hM (lv_sub hl [] rfl)
noncomputable def f_goes_161 (I : Nat → Int32) (A : Nat → Nat → Int32) : Option (Int32 × MS) :=
  f_goes_162 (0 : Int32) I A

set_option maxRecDepth 100000 in
set_option maxHeartbeats 4000000 in
theorem w_goes_161 {p : Program} {l : Launch} {e : Env} {s : State} {m : MethodId} {args : Array Value} {below : List Frame} {meth : Method} {c : Code} {Q : State → Prop} {D : va_G} {cy ci : ClassId} {h : Nat → Nat} {A0 : Nat → Prop} {o : Int32 × MS} (X : CallFix p m c cX12_goes 11 s args wsX12_goes RX12) (hret : mRi p l e ({ frames := 4, cells := 0, slots := 0, locals := 102 } : Room) s m args below meth c Q cX12_goes D cy ci h A0 .boolean o) {I : Nat → Int32} {A : Nat → Nat → Int32} {H : Heap} {locs : List Loc} {ls : Array Slot} (hf : f_goes_161  I A = some o) (hM : mH D cy ci h A0 s H locs I A) (hl : lv_has ls 11 []) : W p l e ({ frames := 4, cells := 0, slots := 0, locals := 102 } : Room) s m args below meth c H locs 0 0 Q (F0 m 161 ls []) := by
  obtain ⟨hx, hb, hml, hown, hts⟩ := id X
  unfold f_goes_161 at hf
  refine lv_iconst (v := (0 : Int32)) hx hb dX12_goes_161 (by decide) ?_
  exact w_goes_162 X hret hf hM (lv_sub hl [] rfl)
noncomputable def f_goes_112 (t0 : Int32) (I : Nat → Int32) (A : Nat → Nat → Int32) : Option (Int32 × MS) :=
  m_chk (vp_nar .boolean t0 = t0) (some (t0, (I, A)))

set_option maxRecDepth 100000 in
set_option maxHeartbeats 4000000 in
theorem w_goes_112 {p : Program} {l : Launch} {e : Env} {s : State} {m : MethodId} {args : Array Value} {below : List Frame} {meth : Method} {c : Code} {Q : State → Prop} {D : va_G} {cy ci : ClassId} {h : Nat → Nat} {A0 : Nat → Prop} {o : Int32 × MS} (X : CallFix p m c cX12_goes 11 s args wsX12_goes RX12) (hret : mRi p l e ({ frames := 4, cells := 0, slots := 0, locals := 102 } : Room) s m args below meth c Q cX12_goes D cy ci h A0 .boolean o) {t0 : Int32} {I : Nat → Int32} {A : Nat → Nat → Int32} {H : Heap} {locs : List Loc} {ls : Array Slot} (hf : f_goes_112 t0 I A = some o) (hM : mH D cy ci h A0 s H locs I A) (hl : lv_has ls 11 []) : W p l e ({ frames := 4, cells := 0, slots := 0, locals := 102 } : Room) s m args below meth c H locs 0 0 Q (F0 m 112 ls [.int t0]) := by
  obtain ⟨hx, hb, hml, hown, hts⟩ := id X
  unfold f_goes_112 at hf
  obtain ⟨cd, hf⟩ := m_chkE hf
  cases hf
  exact hret H locs _ ls hM (m_nb cd) dX12_goes_112
noncomputable def f_goes_0 (x1 : Int32) (x2 : Int32) (I : Nat → Int32) (A : Nat → Nat → Int32) : Option (Int32 × MS) :=
  m_chk (¬ (x1 < 0 ∨ 64 ≤ (x1).toNatClampNeg)) (
  m_bnd (A 24 (x1).toNatClampNeg) (fun v1 =>
  m_cl (f_sideOf v1 I A) (fun r2 Ic2 Ac2 =>
  m_if (r2 = (Ic2 25)) (
  m_chk (¬ (x2 < 0 ∨ 64 ≤ (x2).toNatClampNeg)) (
  m_bnd (Ac2 24 (x2).toNatClampNeg) (fun v3 =>
  m_cl (f_sideOf v3 Ic2 Ac2) (fun r4 Ic4 Ac4 =>
  m_if (r4 = (Ic4 25)) (
  f_goes_37  Ic4 Ac4
  ) (
  m_if (x1 = x2) (
  f_goes_37  Ic4 Ac4
  ) (
  m_chk (¬ (x1 < 0 ∨ 64 ≤ (x1).toNatClampNeg)) (
  m_bnd (Ac4 24 (x1).toNatClampNeg) (fun v5 =>
  m_cl (f_kind v5 Ic4 Ac4) (fun r6 Ic6 Ac6 =>
  m_if (r6 = (1 : Int32)) (
  m_cl (f_pawnGoes x1 x2 Ic6 Ac6) (fun r19 Ic19 Ac19 =>
  m_chk (vp_nar .boolean r19 = r19) (some (r19, (Ic19, Ac19))))
  ) (
  m_bnd (x2 - x2 / (8 : Int32) * (8 : Int32)) (fun v7 =>
  m_bnd (x1 - x1 / (8 : Int32) * (8 : Int32)) (fun v8 =>
  m_bnd (v7 - v8) (fun v9 =>
  m_bnd (x2 / (8 : Int32)) (fun v10 =>
  m_bnd (x1 / (8 : Int32)) (fun v11 =>
  m_bnd (v10 - v11) (fun v12 =>
  m_bnd (v9 * v9) (fun v13 =>
  m_bnd (v12 * v12) (fun v14 =>
  m_bnd (v13 + v14) (fun v15 =>
  m_if (r6 = (2 : Int32)) (
  m_if (v15 = (5 : Int32)) (
  f_goes_112 (1 : Int32) Ic6 Ac6
  ) (
  f_goes_112 (0 : Int32) Ic6 Ac6
  )
  ) (
  m_if (r6 = (6 : Int32)) (
  m_if (v15 < (3 : Int32)) (
  f_goes_157  Ic6 Ac6
  ) (
  m_bnd ((56 : Int32) * (Ic6 25)) (fun v16 =>
  m_bnd ((4 : Int32) + v16) (fun v17 =>
  m_if (x1 = v17) (
  m_if (v12 = 0) (
  m_if (v15 = (4 : Int32)) (
  m_cl (f_mayCastle x2 Ic6 Ac6) (fun r18 Ic18 Ac18 =>
  m_if (r18 = 0) (
  f_goes_161  Ic18 Ac18
  ) (
  f_goes_157  Ic18 Ac18
  ))
  ) (
  f_goes_161  Ic6 Ac6
  )
  ) (
  f_goes_161  Ic6 Ac6
  )
  ) (
  f_goes_161  Ic6 Ac6
  )))
  )
  ) (
  m_if (v9 = 0) (
  f_goes_173 x1 x2 r6 v9 v12 Ic6 Ac6
  ) (
  m_if (v12 = 0) (
  f_goes_173 x1 x2 r6 v9 v12 Ic6 Ac6
  ) (
  f_goes_178 x1 x2 r6 v9 v12 (0 : Int32) Ic6 Ac6
  )
  )
  )
  ))))))))))
  ))))
  )
  ))))
  ) (
  f_goes_37  Ic2 Ac2
  ))))

set_option maxRecDepth 100000 in
set_option maxHeartbeats 4000000 in
theorem w_goes_0 {p : Program} {l : Launch} {e : Env} {s : State} {m : MethodId} {args : Array Value} {below : List Frame} {meth : Method} {c : Code} {Q : State → Prop} {D : va_G} {cy ci : ClassId} {h : Nat → Nat} {A0 : Nat → Prop} {o : Int32 × MS} (X : CallFix p m c cX12_goes 11 s args wsX12_goes RX12) (hret : mRi p l e ({ frames := 4, cells := 0, slots := 0, locals := 102 } : Room) s m args below meth c Q cX12_goes D cy ci h A0 .boolean o) {x1 : Int32} {x2 : Int32} {I : Nat → Int32} {A : Nat → Nat → Int32} {H : Heap} {locs : List Loc} {ls : Array Slot} (hf : f_goes_0 x1 x2 I A = some o) (hM : mH D cy ci h A0 s H locs I A) (hl : lv_has ls 11 [(0, .ref (h 0)), (1, .int x1), (2, .int x2)]) : W p l e ({ frames := 4, cells := 0, slots := 0, locals := 102 } : Room) s m args below meth c H locs 0 0 Q (F0 m 0 ls []) := by
  obtain ⟨hx, hb, hml, hown, hts⟩ := id X
  unfold f_goes_0 at hf
  refine lv_aload_n hx hb dX12_goes_0 rfl (lv_at hl 0 rfl) ?_
  refine m_get (v := .ref (h 24)) X hw_goes hM 24 (by decide) fl_goes_24 rfl dX12_goes_1 ?_
  refine lv_iload_n hx hb dX12_goes_4 rfl (lv_at hl 1 rfl) ?_
  obtain ⟨cd, hf⟩ := m_chkE hf
  refine m_iald X hM 24 20 64 rfl cd dX12_goes_5 ?_
  clear cd
  obtain ⟨v1, ev, hf⟩ := m_bndE hf
  refine m_top ev ?_
  clear ev
  obtain ⟨o2, ho, hf⟩ := m_clE hf
  refine m_callSi X hM (c_sideOf ho) gX12_goes_X12_sideOf rfl ⟨rfl, rfl⟩ hd_sideOf ⟨Nat.le_of_ble_eq_true rfl, Nat.le_of_ble_eq_true rfl⟩ rfl hl.1 rfl (Nat.le_of_ble_eq_true rfl) dX12_goes_6 (fun H locs hM => ?_)
  clear ho
  refine lv_aload_n hx hb dX12_goes_9 rfl (lv_at hl 0 rfl) ?_
  refine m_get (v := .int (o2.2.1 25)) X hw_goes hM 25 (by decide) fl_goes_25 rfl dX12_goes_10 ?_
  refine lv_icmp_ne (tgt := 37) hx hb dX12_goes_13 (by decide) (fun cc1 => ?_) (fun cc1 => ?_)
  · replace hf := m_ifF hf cc1
    exact w_goes_37 X hret hf hM (lv_sub hl [] rfl)
  · replace hf := m_ifT hf cc1
    refine lv_aload_n hx hb dX12_goes_16 rfl (lv_at hl 0 rfl) ?_
    refine m_get (v := .ref (h 24)) X hw_goes hM 24 (by decide) fl_goes_24 rfl dX12_goes_17 ?_
    refine lv_iload_n hx hb dX12_goes_20 rfl (lv_at hl 2 rfl) ?_
    obtain ⟨cd, hf⟩ := m_chkE hf
    refine m_iald X hM 24 20 64 rfl cd dX12_goes_21 ?_
    clear cd
    obtain ⟨v3, ev, hf⟩ := m_bndE hf
    refine m_top ev ?_
    clear ev
    obtain ⟨o4, ho, hf⟩ := m_clE hf
    refine m_callSi X hM (c_sideOf ho) gX12_goes_X12_sideOf rfl ⟨rfl, rfl⟩ hd_sideOf ⟨Nat.le_of_ble_eq_true rfl, Nat.le_of_ble_eq_true rfl⟩ rfl hl.1 rfl (Nat.le_of_ble_eq_true rfl) dX12_goes_22 (fun H locs hM => ?_)
    clear ho
    refine lv_aload_n hx hb dX12_goes_25 rfl (lv_at hl 0 rfl) ?_
    refine m_get (v := .int (o4.2.1 25)) X hw_goes hM 25 (by decide) fl_goes_25 rfl dX12_goes_26 ?_
    refine lv_icmp_eq (tgt := 37) hx hb dX12_goes_29 (by decide) (fun cc1 => ?_) (fun cc1 => ?_)
    · replace hf := m_ifT hf cc1
      exact w_goes_37 X hret hf hM (lv_sub hl [] rfl)
    · replace hf := m_ifF hf cc1
      refine lv_iload_n hx hb dX12_goes_32 rfl (lv_at hl 1 rfl) ?_
      refine lv_iload_n hx hb dX12_goes_33 rfl (lv_at hl 2 rfl) ?_
      refine lv_icmp_ne (tgt := 39) hx hb dX12_goes_34 (by decide) (fun cc1 => ?_) (fun cc1 => ?_)
      · replace hf := m_ifF hf cc1
        refine lv_aload_n hx hb dX12_goes_39 rfl (lv_at hl 0 rfl) ?_
        refine m_get (v := .ref (h 24)) X hw_goes hM 24 (by decide) fl_goes_24 rfl dX12_goes_40 ?_
        refine lv_iload_n hx hb dX12_goes_43 rfl (lv_at hl 1 rfl) ?_
        obtain ⟨cd, hf⟩ := m_chkE hf
        refine m_iald X hM 24 20 64 rfl cd dX12_goes_44 ?_
        clear cd
        obtain ⟨v5, ev, hf⟩ := m_bndE hf
        refine m_top ev ?_
        clear ev
        obtain ⟨o6, ho, hf⟩ := m_clE hf
        refine m_callSi X hM (c_kind ho) gX12_goes_X12_kind rfl ⟨rfl, rfl⟩ hd_kind ⟨Nat.le_of_ble_eq_true rfl, Nat.le_of_ble_eq_true rfl⟩ rfl hl.1 rfl (Nat.le_of_ble_eq_true rfl) dX12_goes_45 (fun H locs hM => ?_)
        clear ho
        refine lv_istore_n (lv' := [(3, .int o6.1), (0, .ref (h 0)), (1, .int x1), (2, .int x2)]) hx hb dX12_goes_48 rfl hl (by decide) rfl (fun ls hl => ?_)
        refine lv_iload_n hx hb dX12_goes_49 rfl (lv_at hl 0 rfl) ?_
        refine lv_iconst (v := (1 : Int32)) hx hb dX12_goes_50 (by decide) ?_
        refine lv_icmp_ne (tgt := 61) hx hb dX12_goes_51 (by decide) (fun cc1 => ?_) (fun cc1 => ?_)
        · replace hf := m_ifF hf cc1
          refine lv_iload_n hx hb dX12_goes_61 rfl (lv_at hl 3 rfl) ?_
          refine lv_bipush (v := (8 : Int32)) hx hb dX12_goes_62 (by decide) ?_
          refine lv_irem hx hb dX12_goes_64 (by decide) ?_
          obtain ⟨v7, ev, hf⟩ := m_bndE hf
          refine m_top ev ?_
          clear ev
          refine lv_iload_n hx hb dX12_goes_65 rfl (lv_at hl 2 rfl) ?_
          refine lv_bipush (v := (8 : Int32)) hx hb dX12_goes_66 (by decide) ?_
          refine lv_irem hx hb dX12_goes_68 (by decide) ?_
          obtain ⟨v8, ev, hf⟩ := m_bndE hf
          refine m_top ev ?_
          clear ev
          refine lv_isub hx hb dX12_goes_69 ?_
          obtain ⟨v9, ev, hf⟩ := m_bndE hf
          refine m_top ev ?_
          clear ev
          refine lv_istore (lv' := [(4, .int v9), (3, .int o6.1), (0, .ref (h 0)), (1, .int x1), (2, .int x2)]) hx hb dX12_goes_70 hl (by decide) rfl (fun ls hl => ?_)
          refine lv_iload_n hx hb dX12_goes_72 rfl (lv_at hl 4 rfl) ?_
          refine lv_bipush (v := (8 : Int32)) hx hb dX12_goes_73 (by decide) ?_
          refine lv_idiv hx hb dX12_goes_75 (by decide) ?_
          obtain ⟨v10, ev, hf⟩ := m_bndE hf
          refine m_top ev ?_
          clear ev
          refine lv_iload_n hx hb dX12_goes_76 rfl (lv_at hl 3 rfl) ?_
          refine lv_bipush (v := (8 : Int32)) hx hb dX12_goes_77 (by decide) ?_
          refine lv_idiv hx hb dX12_goes_79 (by decide) ?_
          obtain ⟨v11, ev, hf⟩ := m_bndE hf
          refine m_top ev ?_
          clear ev
          refine lv_isub hx hb dX12_goes_80 ?_
          obtain ⟨v12, ev, hf⟩ := m_bndE hf
          refine m_top ev ?_
          clear ev
          refine lv_istore (lv' := [(5, .int v12), (4, .int v9), (3, .int o6.1), (0, .ref (h 0)), (1, .int x1), (2, .int x2)]) hx hb dX12_goes_81 hl (by decide) rfl (fun ls hl => ?_)
          refine lv_iload hx hb dX12_goes_83 (lv_at hl 1 rfl) ?_
          refine lv_iload hx hb dX12_goes_85 (lv_at hl 1 rfl) ?_
          refine lv_imul hx hb dX12_goes_87 ?_
          obtain ⟨v13, ev, hf⟩ := m_bndE hf
          refine m_top ev ?_
          clear ev
          refine lv_iload hx hb dX12_goes_88 (lv_at hl 0 rfl) ?_
          refine lv_iload hx hb dX12_goes_90 (lv_at hl 0 rfl) ?_
          refine lv_imul hx hb dX12_goes_92 ?_
          obtain ⟨v14, ev, hf⟩ := m_bndE hf
          refine m_top ev ?_
          clear ev
          refine lv_iadd hx hb dX12_goes_93 ?_
          obtain ⟨v15, ev, hf⟩ := m_bndE hf
          refine m_top ev ?_
          clear ev
          refine lv_istore (lv' := [(6, .int v15), (5, .int v12), (4, .int v9), (3, .int o6.1), (0, .ref (h 0)), (1, .int x1), (2, .int x2)]) hx hb dX12_goes_94 hl (by decide) rfl (fun ls hl => ?_)
          refine lv_iload_n hx hb dX12_goes_96 rfl (lv_at hl 3 rfl) ?_
          refine lv_iconst (v := (2 : Int32)) hx hb dX12_goes_97 (by decide) ?_
          refine lv_icmp_ne (tgt := 113) hx hb dX12_goes_98 (by decide) (fun cc1 => ?_) (fun cc1 => ?_)
          · replace hf := m_ifF hf cc1
            refine lv_iload_n hx hb dX12_goes_113 rfl (lv_at hl 3 rfl) ?_
            refine lv_bipush (v := (6 : Int32)) hx hb dX12_goes_114 (by decide) ?_
            refine lv_icmp_ne (tgt := 163) hx hb dX12_goes_116 (by decide) (fun cc1 => ?_) (fun cc1 => ?_)
            · replace hf := m_ifF hf cc1
              refine lv_iload hx hb dX12_goes_163 (lv_at hl 2 rfl) ?_
              refine lv_if_eq (tgt := 173) hx hb dX12_goes_165 (by decide) (fun cc1 => ?_) (fun cc1 => ?_)
              · replace hf := m_ifT hf cc1
                exact w_goes_173 X hret hf hM (lv_sub hl [4, 5, 6, 3, 2, 1] rfl)
              · replace hf := m_ifF hf cc1
                refine lv_iload hx hb dX12_goes_168 (lv_at hl 1 rfl) ?_
                refine lv_if_ne (tgt := 177) hx hb dX12_goes_170 (by decide) (fun cc1 => ?_) (fun cc1 => ?_)
                · replace hf := m_ifF hf cc1
                  refine lv_iconst (v := (0 : Int32)) hx hb dX12_goes_177 (by decide) ?_
                  exact w_goes_178 X hret hf hM (lv_sub hl [4, 5, 6, 3, 2, 1] rfl)
                · replace hf := m_ifT hf cc1
                  exact w_goes_173 X hret hf hM (lv_sub hl [4, 5, 6, 3, 2, 1] rfl)
            · replace hf := m_ifT hf cc1
              refine lv_iload hx hb dX12_goes_119 (lv_at hl 0 rfl) ?_
              refine lv_iconst (v := (3 : Int32)) hx hb dX12_goes_121 (by decide) ?_
              refine lv_icmp_lt (tgt := 157) hx hb dX12_goes_122 (by decide) (fun cc1 => ?_) (fun cc1 => ?_)
              · replace hf := m_ifT hf cc1
                exact w_goes_157 X hret hf hM (lv_sub hl [] rfl)
              · replace hf := m_ifF hf cc1
                refine lv_iload_n hx hb dX12_goes_125 rfl (lv_at hl 5 rfl) ?_
                refine lv_iconst (v := (4 : Int32)) hx hb dX12_goes_126 (by decide) ?_
                refine lv_bipush (v := (56 : Int32)) hx hb dX12_goes_127 (by decide) ?_
                refine lv_aload_n hx hb dX12_goes_129 rfl (lv_at hl 4 rfl) ?_
                refine m_get (v := .int (o6.2.1 25)) X hw_goes hM 25 (by decide) fl_goes_25 rfl dX12_goes_130 ?_
                refine lv_imul hx hb dX12_goes_133 ?_
                obtain ⟨v16, ev, hf⟩ := m_bndE hf
                refine m_top ev ?_
                clear ev
                refine lv_iadd hx hb dX12_goes_134 ?_
                obtain ⟨v17, ev, hf⟩ := m_bndE hf
                refine m_top ev ?_
                clear ev
                refine lv_icmp_ne (tgt := 161) hx hb dX12_goes_135 (by decide) (fun cc1 => ?_) (fun cc1 => ?_)
                · replace hf := m_ifF hf cc1
                  exact w_goes_161 X hret hf hM (lv_sub hl [] rfl)
                · replace hf := m_ifT hf cc1
                  refine lv_iload hx hb dX12_goes_138 (lv_at hl 1 rfl) ?_
                  refine lv_if_ne (tgt := 161) hx hb dX12_goes_140 (by decide) (fun cc1 => ?_) (fun cc1 => ?_)
                  · replace hf := m_ifF hf cc1
                    exact w_goes_161 X hret hf hM (lv_sub hl [] rfl)
                  · replace hf := m_ifT hf cc1
                    refine lv_iload hx hb dX12_goes_143 (lv_at hl 0 rfl) ?_
                    refine lv_iconst (v := (4 : Int32)) hx hb dX12_goes_145 (by decide) ?_
                    refine lv_icmp_ne (tgt := 161) hx hb dX12_goes_146 (by decide) (fun cc1 => ?_) (fun cc1 => ?_)
                    · replace hf := m_ifF hf cc1
                      exact w_goes_161 X hret hf hM (lv_sub hl [] rfl)
                    · replace hf := m_ifT hf cc1
                      refine lv_aload_n hx hb dX12_goes_149 rfl (lv_at hl 4 rfl) ?_
                      refine lv_iload_n hx hb dX12_goes_150 rfl (lv_at hl 6 rfl) ?_
                      obtain ⟨o18, ho, hf⟩ := m_clE hf
                      refine m_callVi X hM (c_mayCastle ho) gX12_goes_X12_mayCastle rfl ⟨rfl, rfl⟩ hd_mayCastle ⟨Nat.le_of_ble_eq_true rfl, Nat.le_of_ble_eq_true rfl⟩ rfl hl.1 rfl (Nat.le_of_ble_eq_true rfl) dX12_goes_151 (fun H locs hM => ?_)
                      clear ho
                      refine lv_if_eq (tgt := 161) hx hb dX12_goes_154 (by decide) (fun cc1 => ?_) (fun cc1 => ?_)
                      · replace hf := m_ifT hf cc1
                        exact w_goes_161 X hret hf hM (lv_sub hl [] rfl)
                      · replace hf := m_ifF hf cc1
                        exact w_goes_157 X hret hf hM (lv_sub hl [] rfl)
          · replace hf := m_ifT hf cc1
            refine lv_iload hx hb dX12_goes_101 (lv_at hl 0 rfl) ?_
            refine lv_iconst (v := (5 : Int32)) hx hb dX12_goes_103 (by decide) ?_
            refine lv_icmp_ne (tgt := 111) hx hb dX12_goes_104 (by decide) (fun cc1 => ?_) (fun cc1 => ?_)
            · replace hf := m_ifF hf cc1
              refine lv_iconst (v := (0 : Int32)) hx hb dX12_goes_111 (by decide) ?_
              exact w_goes_112 X hret hf hM (lv_sub hl [] rfl)
            · replace hf := m_ifT hf cc1
              refine lv_iconst (v := (1 : Int32)) hx hb dX12_goes_107 (by decide) ?_
              refine lv_goto (tgt := 112) hx hb dX12_goes_108 (by decide) ?_
              exact w_goes_112 X hret hf hM (lv_sub hl [] rfl)
        · replace hf := m_ifT hf cc1
          refine lv_aload_n hx hb dX12_goes_54 rfl (lv_at hl 1 rfl) ?_
          refine lv_iload_n hx hb dX12_goes_55 rfl (lv_at hl 2 rfl) ?_
          refine lv_iload_n hx hb dX12_goes_56 rfl (lv_at hl 3 rfl) ?_
          obtain ⟨o19, ho, hf⟩ := m_clE hf
          refine m_callVi X hM (c_pawnGoes ho) gX12_goes_X12_pawnGoes rfl ⟨rfl, rfl⟩ hd_pawnGoes ⟨Nat.le_of_ble_eq_true rfl, Nat.le_of_ble_eq_true rfl⟩ rfl hl.1 rfl (Nat.le_of_ble_eq_true rfl) dX12_goes_57 (fun H locs hM => ?_)
          clear ho
          obtain ⟨cd, hf⟩ := m_chkE hf
          cases hf
          exact hret H locs _ ls hM (m_nb cd) dX12_goes_60
      · replace hf := m_ifT hf cc1
        exact w_goes_37 X hret hf hM (lv_sub hl [] rfl)
noncomputable def f_goes (x1 : Int32) (x2 : Int32) (I : Nat → Int32) (A : Nat → Nat → Int32) : Option (Int32 × MS) := f_goes_0 x1 x2 I A
theorem c_goes {l : Launch} {D : va_G} {cy ci : ClassId} {h : Nat → Nat} {x1 : Int32} {x2 : Int32} {I : Nat → Int32} {A : Nat → Nat → Int32} {o : Int32 × MS} (hf : f_goes x1 x2 I A = some o) : mMi l yX12_goes wsX12_goes ({ frames := 4, cells := 0, slots := 0, locals := 102 } : Room) [.ref (h 0), .int x1, .int x2] D cy ci h I A o :=
  m_entryI (cc := cX12_goes) (maxL := 11) (by decide) rfl rfl (Nat.le_of_ble_eq_true rfl) (fun p e s m args below meth c A0 Q H locs ls X hret hM hl => w_goes_0 X hret hf hM (lv_sub hl [0, 1, 2] rfl))
theorem hw_keep : ∀ w ∈ wsX120, w ∈ wsX12_keep := by decide +kernel
theorem fl_keep_24 : Cond.fieldLink RX12 70 "MoveTextsModel" "men" "[I" ∈ wsX12_keep := by decide +kernel
theorem fl_keep_25 : Cond.fieldLink RX12 121 "MoveTextsModel" "side" "I" ∈ wsX12_keep := by decide +kernel
theorem fl_keep_26 : Cond.fieldLink RX12 124 "MoveTextsModel" "rights" "I" ∈ wsX12_keep := by decide +kernel
theorem fl_keep_27 : Cond.fieldLink RX12 127 "MoveTextsModel" "passed" "I" ∈ wsX12_keep := by decide +kernel
theorem fl_keep_28 : Cond.fieldLink RX12 130 "MoveTextsModel" "clock" "I" ∈ wsX12_keep := by decide +kernel
theorem fl_keep_29 : Cond.fieldLink RX12 133 "MoveTextsModel" "number" "I" ∈ wsX12_keep := by decide +kernel
theorem fl_keep_30 : Cond.fieldLink RX12 73 "MoveTextsModel" "keptMen" "[I" ∈ wsX12_keep := by decide +kernel
theorem fl_keep_31 : Cond.fieldLink RX12 76 "MoveTextsModel" "keptRest" "[I" ∈ wsX12_keep := by decide +kernel
theorem hd_keep : yX12_keep.cls = RX12 ∧ yX12_keep.cls ≠ "java/lang/invoke/MethodHandle" ∧ yX12_keep.cls ≠ "java/lang/invoke/VarHandle" ∧ (parseMethodDescriptor yX12_keep.desc).map (fun d => d.parameters.length) = some 0 := by decide +kernel
noncomputable def f_keep_2s (self2 : Int32 → (Nat → Int32) → (Nat → Nat → Int32) → Option (Int32 × MS)) (x1 : Int32) (I : Nat → Int32) (A : Nat → Nat → Int32) : Option (Int32 × MS) :=
  m_if ((64 : Int32) ≤ x1) (
  m_chk (¬ ((0 : Int32) < 0 ∨ 5 ≤ ((0 : Int32)).toNatClampNeg)) (
  m_bnd (va_up A 31 (upd (A 31) ((0 : Int32)).toNatClampNeg (I 25))) (fun A1 =>
  m_chk (¬ ((1 : Int32) < 0 ∨ 5 ≤ ((1 : Int32)).toNatClampNeg)) (
  m_bnd (va_up A1 31 (upd (A1 31) ((1 : Int32)).toNatClampNeg (I 26))) (fun A2 =>
  m_chk (¬ ((2 : Int32) < 0 ∨ 5 ≤ ((2 : Int32)).toNatClampNeg)) (
  m_bnd (va_up A2 31 (upd (A2 31) ((2 : Int32)).toNatClampNeg (I 27))) (fun A3 =>
  m_chk (¬ ((3 : Int32) < 0 ∨ 5 ≤ ((3 : Int32)).toNatClampNeg)) (
  m_bnd (va_up A3 31 (upd (A3 31) ((3 : Int32)).toNatClampNeg (I 28))) (fun A4 =>
  m_chk (¬ ((4 : Int32) < 0 ∨ 5 ≤ ((4 : Int32)).toNatClampNeg)) (
  m_bnd (va_up A4 31 (upd (A4 31) ((4 : Int32)).toNatClampNeg (I 29))) (fun A5 =>
  some (0, (I, A5))))))))))))
  ) (
  m_chk (¬ (x1 < 0 ∨ 64 ≤ (x1).toNatClampNeg)) (
  m_bnd (A 24 (x1).toNatClampNeg) (fun v6 =>
  m_chk (¬ (x1 < 0 ∨ 64 ≤ (x1).toNatClampNeg)) (
  m_bnd (va_up A 30 (upd (A 30) (x1).toNatClampNeg v6)) (fun A7 =>
  m_bnd (x1 + (1 : Int32)) (fun v8 =>
  self2 v8 I A7)))))
  )

set_option maxRecDepth 100000 in
set_option maxHeartbeats 4000000 in
theorem ws_keep_2 {p : Program} {l : Launch} {e : Env} {s : State} {m : MethodId} {args : Array Value} {below : List Frame} {meth : Method} {c : Code} {Q : State → Prop} {D : va_G} {cy ci : ClassId} {h : Nat → Nat} {A0 : Nat → Prop} {o : Int32 × MS} (X : CallFix p m c cX12_keep 2 s args wsX12_keep RX12) (hret : mRv p l e ({ frames := 0, cells := 0, slots := 0, locals := 0 } : Room) s m args below meth c Q cX12_keep D cy ci h A0 o) {self2 : Int32 → (Nat → Int32) → (Nat → Nat → Int32) → Option (Int32 × MS)} (hself2 : ∀ (x1 : Int32) (I : Nat → Int32) (A : Nat → Nat → Int32) (H : Heap) (locs : List Loc) (ls : Array Slot), self2 x1 I A = some o → mH D cy ci h A0 s H locs I A → lv_has ls 2 [(0, .ref (h 0)), (1, .int x1)] → W p l e ({ frames := 0, cells := 0, slots := 0, locals := 0 } : Room) s m args below meth c H locs 0 0 Q (F0 m 2 ls [])) {x1 : Int32} {I : Nat → Int32} {A : Nat → Nat → Int32} {H : Heap} {locs : List Loc} {ls : Array Slot} (hf : f_keep_2s self2 x1 I A = some o) (hM : mH D cy ci h A0 s H locs I A) (hl : lv_has ls 2 [(0, .ref (h 0)), (1, .int x1)]) : W p l e ({ frames := 0, cells := 0, slots := 0, locals := 0 } : Room) s m args below meth c H locs 0 0 Q (F0 m 2 ls []) := by
  obtain ⟨hx, hb, hml, hown, hts⟩ := id X
  unfold f_keep_2s at hf
  refine lv_iload_n hx hb dX12_keep_2 rfl (lv_at hl 1 rfl) ?_
  refine lv_bipush (v := (64 : Int32)) hx hb dX12_keep_3 (by decide) ?_
  refine lv_icmp_ge (tgt := 26) hx hb dX12_keep_5 (by decide) (fun cc1 => ?_) (fun cc1 => ?_)
  · replace hf := m_ifT hf cc1
    refine lv_aload_n hx hb dX12_keep_26 rfl (lv_at hl 0 rfl) ?_
    refine m_get (v := .ref (h 31)) X hw_keep hM 31 (by decide) fl_keep_31 rfl dX12_keep_27 ?_
    refine lv_iconst (v := (0 : Int32)) hx hb dX12_keep_30 (by decide) ?_
    refine lv_aload_n hx hb dX12_keep_31 rfl (lv_at hl 0 rfl) ?_
    refine m_get (v := .int (I 25)) X hw_keep hM 25 (by decide) fl_keep_25 rfl dX12_keep_32 ?_
    obtain ⟨cd, hf⟩ := m_chkE hf
    refine m_iast X hM 31 22 5 rfl ma_31 cd dX12_keep_35 (fun H locs hM => ?_)
    clear cd
    obtain ⟨A1, ev, hf⟩ := m_bndE hf
    replace hM := m_hA hM ev
    clear ev
    refine lv_aload_n hx hb dX12_keep_36 rfl (lv_at hl 0 rfl) ?_
    refine m_get (v := .ref (h 31)) X hw_keep hM 31 (by decide) fl_keep_31 rfl dX12_keep_37 ?_
    refine lv_iconst (v := (1 : Int32)) hx hb dX12_keep_40 (by decide) ?_
    refine lv_aload_n hx hb dX12_keep_41 rfl (lv_at hl 0 rfl) ?_
    refine m_get (v := .int (I 26)) X hw_keep hM 26 (by decide) fl_keep_26 rfl dX12_keep_42 ?_
    obtain ⟨cd, hf⟩ := m_chkE hf
    refine m_iast X hM 31 22 5 rfl ma_31 cd dX12_keep_45 (fun H locs hM => ?_)
    clear cd
    obtain ⟨A2, ev, hf⟩ := m_bndE hf
    replace hM := m_hA hM ev
    clear ev
    refine lv_aload_n hx hb dX12_keep_46 rfl (lv_at hl 0 rfl) ?_
    refine m_get (v := .ref (h 31)) X hw_keep hM 31 (by decide) fl_keep_31 rfl dX12_keep_47 ?_
    refine lv_iconst (v := (2 : Int32)) hx hb dX12_keep_50 (by decide) ?_
    refine lv_aload_n hx hb dX12_keep_51 rfl (lv_at hl 0 rfl) ?_
    refine m_get (v := .int (I 27)) X hw_keep hM 27 (by decide) fl_keep_27 rfl dX12_keep_52 ?_
    obtain ⟨cd, hf⟩ := m_chkE hf
    refine m_iast X hM 31 22 5 rfl ma_31 cd dX12_keep_55 (fun H locs hM => ?_)
    clear cd
    obtain ⟨A3, ev, hf⟩ := m_bndE hf
    replace hM := m_hA hM ev
    clear ev
    refine lv_aload_n hx hb dX12_keep_56 rfl (lv_at hl 0 rfl) ?_
    refine m_get (v := .ref (h 31)) X hw_keep hM 31 (by decide) fl_keep_31 rfl dX12_keep_57 ?_
    refine lv_iconst (v := (3 : Int32)) hx hb dX12_keep_60 (by decide) ?_
    refine lv_aload_n hx hb dX12_keep_61 rfl (lv_at hl 0 rfl) ?_
    refine m_get (v := .int (I 28)) X hw_keep hM 28 (by decide) fl_keep_28 rfl dX12_keep_62 ?_
    obtain ⟨cd, hf⟩ := m_chkE hf
    refine m_iast X hM 31 22 5 rfl ma_31 cd dX12_keep_65 (fun H locs hM => ?_)
    clear cd
    obtain ⟨A4, ev, hf⟩ := m_bndE hf
    replace hM := m_hA hM ev
    clear ev
    refine lv_aload_n hx hb dX12_keep_66 rfl (lv_at hl 0 rfl) ?_
    refine m_get (v := .ref (h 31)) X hw_keep hM 31 (by decide) fl_keep_31 rfl dX12_keep_67 ?_
    refine lv_iconst (v := (4 : Int32)) hx hb dX12_keep_70 (by decide) ?_
    refine lv_aload_n hx hb dX12_keep_71 rfl (lv_at hl 0 rfl) ?_
    refine m_get (v := .int (I 29)) X hw_keep hM 29 (by decide) fl_keep_29 rfl dX12_keep_72 ?_
    obtain ⟨cd, hf⟩ := m_chkE hf
    refine m_iast X hM 31 22 5 rfl ma_31 cd dX12_keep_75 (fun H locs hM => ?_)
    clear cd
    obtain ⟨A5, ev, hf⟩ := m_bndE hf
    replace hM := m_hA hM ev
    clear ev
    cases hf
    exact hret H locs _ ls hM dX12_keep_76
  · replace hf := m_ifF hf cc1
    refine lv_aload_n hx hb dX12_keep_8 rfl (lv_at hl 0 rfl) ?_
    refine m_get (v := .ref (h 30)) X hw_keep hM 30 (by decide) fl_keep_30 rfl dX12_keep_9 ?_
    refine lv_iload_n hx hb dX12_keep_12 rfl (lv_at hl 1 rfl) ?_
    refine lv_aload_n hx hb dX12_keep_13 rfl (lv_at hl 0 rfl) ?_
    refine m_get (v := .ref (h 24)) X hw_keep hM 24 (by decide) fl_keep_24 rfl dX12_keep_14 ?_
    refine lv_iload_n hx hb dX12_keep_17 rfl (lv_at hl 1 rfl) ?_
    obtain ⟨cd, hf⟩ := m_chkE hf
    refine m_iald X hM 24 20 64 rfl cd dX12_keep_18 ?_
    clear cd
    obtain ⟨v6, ev, hf⟩ := m_bndE hf
    refine m_top ev ?_
    clear ev
    obtain ⟨cd, hf⟩ := m_chkE hf
    refine m_iast X hM 30 21 64 rfl ma_30 cd dX12_keep_19 (fun H locs hM => ?_)
    clear cd
    obtain ⟨A7, ev, hf⟩ := m_bndE hf
    replace hM := m_hA hM ev
    clear ev
    obtain ⟨v8, ev, hf⟩ := m_bndE hf
    refine lv_iinc (v := v8) (lv' := [(1, .int v8), (0, .ref (h 0))]) hx hb dX12_keep_20 hl (k := 1) rfl (by rw [ev]; rfl) (by decide) rfl (fun ls hl => ?_)
    clear ev
    refine lv_goto (tgt := 2) hx hb dX12_keep_23 (by decide) ?_
    exact hself2 _ _ _ _ _ _ hf hM (lv_sub hl [1, 0] rfl)
noncomputable def f_keep_2 : Nat → Int32 → (Nat → Int32) → (Nat → Nat → Int32) → Option (Int32 × MS)
  | 0 => fun _ _ _ => none
  | n + 1 => f_keep_2s (f_keep_2 n)
theorem w_keep_2 {p : Program} {l : Launch} {e : Env} {s : State} {m : MethodId} {args : Array Value} {below : List Frame} {meth : Method} {c : Code} {Q : State → Prop} {D : va_G} {cy ci : ClassId} {h : Nat → Nat} {A0 : Nat → Prop} {o : Int32 × MS} (X : CallFix p m c cX12_keep 2 s args wsX12_keep RX12) (hret : mRv p l e ({ frames := 0, cells := 0, slots := 0, locals := 0 } : Room) s m args below meth c Q cX12_keep D cy ci h A0 o) (n : Nat) : ∀ (x1 : Int32) (I : Nat → Int32) (A : Nat → Nat → Int32) (H : Heap) (locs : List Loc) (ls : Array Slot), f_keep_2 n x1 I A = some o → mH D cy ci h A0 s H locs I A → lv_has ls 2 [(0, .ref (h 0)), (1, .int x1)] → W p l e ({ frames := 0, cells := 0, slots := 0, locals := 0 } : Room) s m args below meth c H locs 0 0 Q (F0 m 2 ls []) := by
  induction n with
  | zero => intro x1 I A H locs ls hf; cases hf
  | succ n ih => intro x1 I A H locs ls hf hM hl; exact ws_keep_2 X hret (self2 := f_keep_2 n) ih hf hM hl
noncomputable def f_keep_0 (I : Nat → Int32) (A : Nat → Nat → Int32) : Option (Int32 × MS) :=
  f_keep_2 mFuel (0 : Int32) I A

set_option maxRecDepth 100000 in
set_option maxHeartbeats 4000000 in
theorem w_keep_0 {p : Program} {l : Launch} {e : Env} {s : State} {m : MethodId} {args : Array Value} {below : List Frame} {meth : Method} {c : Code} {Q : State → Prop} {D : va_G} {cy ci : ClassId} {h : Nat → Nat} {A0 : Nat → Prop} {o : Int32 × MS} (X : CallFix p m c cX12_keep 2 s args wsX12_keep RX12) (hret : mRv p l e ({ frames := 0, cells := 0, slots := 0, locals := 0 } : Room) s m args below meth c Q cX12_keep D cy ci h A0 o) {I : Nat → Int32} {A : Nat → Nat → Int32} {H : Heap} {locs : List Loc} {ls : Array Slot} (hf : f_keep_0  I A = some o) (hM : mH D cy ci h A0 s H locs I A) (hl : lv_has ls 2 [(0, .ref (h 0))]) : W p l e ({ frames := 0, cells := 0, slots := 0, locals := 0 } : Room) s m args below meth c H locs 0 0 Q (F0 m 0 ls []) := by
  obtain ⟨hx, hb, hml, hown, hts⟩ := id X
  unfold f_keep_0 at hf
  refine lv_iconst (v := (0 : Int32)) hx hb dX12_keep_0 (by decide) ?_
  refine lv_istore_n (lv' := [(1, .int (0 : Int32)), (0, .ref (h 0))]) hx hb dX12_keep_1 rfl hl (by decide) rfl (fun ls hl => ?_)
  exact w_keep_2 X hret _ _ _ _ _ _ _ hf hM (lv_sub hl [1, 0] rfl)
noncomputable def f0_keep (I : Nat → Int32) (A : Nat → Nat → Int32) : Option (Int32 × MS) := f_keep_0  I A
theorem c0_keep {l : Launch} {D : va_G} {cy ci : ClassId} {h : Nat → Nat} {I : Nat → Int32} {A : Nat → Nat → Int32} {o : Int32 × MS} (hf : f0_keep  I A = some o) : mMv l yX12_keep wsX12_keep ({ frames := 0, cells := 0, slots := 0, locals := 0 } : Room) [.ref (h 0)] D cy ci h I A o :=
  m_entryV (cc := cX12_keep) (maxL := 2) (by decide) rfl rfl (Nat.le_of_ble_eq_true rfl) (fun p e s m args below meth c A0 Q H locs ls X hret hM hl => w_keep_0 X hret hf hM (lv_sub hl [0] rfl))
end
section
noncomputable def FrS (WI WA : List Nat) (I : Nat → Int32) (A : Nat → Nat → Int32) (I' : Nat → Int32) (A' : Nat → Nat → Int32) : Prop := (∀ k, k ∉ WI → I' k = I k) ∧ (∀ j, j ∉ WA → A' j = A j)
section FRS
variable {WI WA VI VA : List Nat} {I I1 I2 : Nat → Int32} {A A1 A2 : Nat → Nat → Int32}
theorem frs_0 : FrS WI WA I A I A := ⟨fun _ _ => rfl, fun _ _ => rfl⟩
theorem frs_I {k0 : Nat} {v : Int32} (h : FrS WI WA I A I1 A1) (hk : k0 ∈ WI) (e : I2 = upd I1 k0 v) : FrS WI WA I A I2 A1 := ⟨fun k h1 => by
  have hne : k ≠ k0 := fun e1 => h1 (by rw [e1]; exact hk)
  rw [e, ← h.1 k h1]
  exact if_neg hne, h.2⟩
theorem frs_A {j0 : Nat} {f : Nat → Int32} (h : FrS WI WA I A I1 A1) (hj : j0 ∈ WA) (e : A2 = va_up A1 j0 f) : FrS WI WA I A I1 A2 := ⟨h.1, fun j h1 => by
  have hne : j ≠ j0 := fun e1 => h1 (by rw [e1]; exact hj)
  rw [e, va_up_ne _ _ hne, h.2 j h1]⟩
theorem frs_t (h : FrS WI WA I A I1 A1) (h2 : FrS VI VA I1 A1 I2 A2) (hI : ∀ k ∈ VI, k ∈ WI) (hA : ∀ j ∈ VA, j ∈ WA) : FrS WI WA I A I2 A2 := ⟨fun k h1 => (h2.1 k (fun h3 => h1 (hI k h3))).trans (h.1 k h1), fun j h1 => (h2.2 j (fun h3 => h1 (hA j h3))).trans (h.2 j h1)⟩
end FRS
theorem m_ifE {β : Type} {c : Prop} [Decidable c] {a b : Option β} {r : β} (hf : m_if c a b = some r) : (c ∧ a = some r) ∨ (¬ c ∧ b = some r) := by
  by_cases hc : c
  · exact Or.inl ⟨hc, m_ifT hf hc⟩
  · exact Or.inr ⟨hc, m_ifF hf hc⟩
theorem fr_keep_2s {o : Int32 × MS} {self2 : Int32 → (Nat → Int32) → (Nat → Nat → Int32) → Option (Int32 × MS)} {x1 : Int32} {I : Nat → Int32} {A : Nat → Nat → Int32} (hself2 : ∀ (z0 : Int32) (I : Nat → Int32) (A : Nat → Nat → Int32), self2 z0 I A = some o → FrS [] [30, 31] I A o.2.1 o.2.2) (hf : f_keep_2s self2 x1 I A = some o) : FrS [] [30, 31] I A o.2.1 o.2.2 := by
  have hR : FrS [] [30, 31] I A I A := frs_0
  unfold f_keep_2s at hf
  rcases m_ifE hf with ⟨-, hf⟩ | ⟨-, hf⟩
  ·
    obtain ⟨-, hf⟩ := m_chkE hf
    obtain ⟨A1, ev, hf⟩ := m_bndE hf
    replace hR := frs_A hR (by decide) ev
    clear ev
    obtain ⟨-, hf⟩ := m_chkE hf
    obtain ⟨A2, ev, hf⟩ := m_bndE hf
    replace hR := frs_A hR (by decide) ev
    clear ev
    obtain ⟨-, hf⟩ := m_chkE hf
    obtain ⟨A3, ev, hf⟩ := m_bndE hf
    replace hR := frs_A hR (by decide) ev
    clear ev
    obtain ⟨-, hf⟩ := m_chkE hf
    obtain ⟨A4, ev, hf⟩ := m_bndE hf
    replace hR := frs_A hR (by decide) ev
    clear ev
    obtain ⟨-, hf⟩ := m_chkE hf
    obtain ⟨A5, ev, hf⟩ := m_bndE hf
    replace hR := frs_A hR (by decide) ev
    clear ev
    cases hf
    exact hR
  ·
    obtain ⟨-, hf⟩ := m_chkE hf
    obtain ⟨v6, ev, hf⟩ := m_bndE hf
    clear ev
    obtain ⟨-, hf⟩ := m_chkE hf
    obtain ⟨A7, ev, hf⟩ := m_bndE hf
    replace hR := frs_A hR (by decide) ev
    clear ev
    obtain ⟨v8, ev, hf⟩ := m_bndE hf
    clear ev
    exact frs_t hR (hself2 _ _ _ hf) (fun _ h => h) (fun _ h => h)
theorem fr_keep_2 {o : Int32 × MS}   (n : Nat) : ∀ (y0 : Int32) (I : Nat → Int32) (A : Nat → Nat → Int32), f_keep_2  n y0 I A = some o → FrS [] [30, 31] I A o.2.1 o.2.2 := by
  induction n with
  | zero => intro y0 I A hf; cases hf
  | succ n ih => intro y0 I A hf; exact fr_keep_2s  ih hf
theorem fr_keep_0 {o : Int32 × MS} {I : Nat → Int32} {A : Nat → Nat → Int32}  (hf : f_keep_0 I A = some o) : FrS [] [30, 31] I A o.2.1 o.2.2 := by
  have hR : FrS [] [30, 31] I A I A := frs_0
  unfold f_keep_0 at hf
  exact frs_t hR (fr_keep_2  _ _ _ _ hf) (fun _ h => h) (fun _ h => h)
noncomputable def mIs : List Nat := [0, 1, 3, 5, 6, 25, 26, 27, 28, 29, 33, 36, 37, 38, 39]
noncomputable def mSz : List (Nat × Nat) := [(2, 2000), (4, 80000), (7, 2), (8, 602), (9, 602), (10, 602), (11, 602), (12, 602), (13, 2408), (14, 602), (15, 120400), (16, 128), (17, 10), (18, 2), (19, 16), (20, 192), (21, 16), (22, 1536), (23, 2), (24, 64), (30, 64), (31, 5), (32, 2048), (34, 301), (35, 16)]
theorem vc_i {cA : ClassId} {n : Nat} {f f' : Nat → Int32} (h : ∀ i, i < n → f' i = f i) : vp_cell cA (n, .inl f') = vp_cell cA (n, .inl f) := congrArg (fun g : Fin n → Value => ({ cls := cA, slots := Array.ofFn g, vm := .none } : Cell)) (funext fun j => congrArg Value.int (h j.val j.isLt))
theorem m_ren {D : va_G} {cy ci : ClassId} {h : Nat → Nat} {I I' : Nat → Int32} {A A' : Nat → Nat → Int32} {H : Heap} (hI : ∀ k ∈ mIs, I' k = I k) (hA : ∀ q ∈ mSz, ∀ i, i < q.2 → A' q.1 i = A q.1 i) (hP : va_P D vwCl (mW cy ci h I A) H) : va_P D vwCl (mW cy ci h I' A') H := by
  have hF : mF h I' = mF h I := by
    show [Value.int (I' 0), Value.int (I' 1), .ref (h 2), Value.int (I' 3), .ref (h 4), Value.int (I' 5), Value.int (I' 6), .ref (h 7), .ref (h 8), .ref (h 9), .ref (h 10), .ref (h 11), .ref (h 12), .ref (h 13), .ref (h 14), .ref (h 15), .ref (h 16), .ref (h 17), .ref (h 18), .ref (h 19), .ref (h 20), .ref (h 21), .ref (h 22), .ref (h 23), .ref (h 24), Value.int (I' 25), Value.int (I' 26), Value.int (I' 27), Value.int (I' 28), Value.int (I' 29), .ref (h 30), .ref (h 31), .ref (h 32), Value.int (I' 33), .ref (h 34), .ref (h 35), Value.int (I' 36), Value.int (I' 37), Value.int (I' 38), Value.int (I' 39)] = [Value.int (I 0), Value.int (I 1), .ref (h 2), Value.int (I 3), .ref (h 4), Value.int (I 5), Value.int (I 6), .ref (h 7), .ref (h 8), .ref (h 9), .ref (h 10), .ref (h 11), .ref (h 12), .ref (h 13), .ref (h 14), .ref (h 15), .ref (h 16), .ref (h 17), .ref (h 18), .ref (h 19), .ref (h 20), .ref (h 21), .ref (h 22), .ref (h 23), .ref (h 24), Value.int (I 25), Value.int (I 26), Value.int (I 27), Value.int (I 28), Value.int (I 29), .ref (h 30), .ref (h 31), .ref (h 32), Value.int (I 33), .ref (h 34), .ref (h 35), Value.int (I 36), Value.int (I 37), Value.int (I 38), Value.int (I 39)]
    rw [hI 0 (by decide), hI 1 (by decide), hI 3 (by decide), hI 5 (by decide), hI 6 (by decide), hI 25 (by decide), hI 26 (by decide), hI 27 (by decide), hI 28 (by decide), hI 29 (by decide), hI 33 (by decide), hI 36 (by decide), hI 37 (by decide), hI 38 (by decide), hI 39 (by decide)]
  intro k x hx
  match k, hx with
  | 0, hx =>
    cases hx
    have h0 := hP 0 _ rfl
    show va_at D vwCl (h 0, .inr (12, mF h I')) H
    rw [hF]
    exact h0
  | 1, hx =>
    cases hx
    have h0 : H[h 2]? = some (vp_cell cy (2000, .inl (A 2))) := hP 1 _ rfl
    show H[h 2]? = some (vp_cell cy (2000, .inl (A' 2)))
    rw [vc_i (hA (2, 2000) (by decide))]
    exact h0
  | 2, hx =>
    cases hx
    have h0 : H[h 4]? = some (vp_cell cy (80000, .inl (A 4))) := hP 2 _ rfl
    show H[h 4]? = some (vp_cell cy (80000, .inl (A' 4)))
    rw [vc_i (hA (4, 80000) (by decide))]
    exact h0
  | 3, hx =>
    cases hx
    have h0 : H[h 7]? = some (vp_cell ci (2, .inl (A 7))) := hP 3 _ rfl
    show H[h 7]? = some (vp_cell ci (2, .inl (A' 7)))
    rw [vc_i (hA (7, 2) (by decide))]
    exact h0
  | 4, hx =>
    cases hx
    have h0 : H[h 8]? = some (vp_cell ci (602, .inl (A 8))) := hP 4 _ rfl
    show H[h 8]? = some (vp_cell ci (602, .inl (A' 8)))
    rw [vc_i (hA (8, 602) (by decide))]
    exact h0
  | 5, hx =>
    cases hx
    have h0 : H[h 9]? = some (vp_cell ci (602, .inl (A 9))) := hP 5 _ rfl
    show H[h 9]? = some (vp_cell ci (602, .inl (A' 9)))
    rw [vc_i (hA (9, 602) (by decide))]
    exact h0
  | 6, hx =>
    cases hx
    have h0 : H[h 10]? = some (vp_cell ci (602, .inl (A 10))) := hP 6 _ rfl
    show H[h 10]? = some (vp_cell ci (602, .inl (A' 10)))
    rw [vc_i (hA (10, 602) (by decide))]
    exact h0
  | 7, hx =>
    cases hx
    have h0 : H[h 11]? = some (vp_cell ci (602, .inl (A 11))) := hP 7 _ rfl
    show H[h 11]? = some (vp_cell ci (602, .inl (A' 11)))
    rw [vc_i (hA (11, 602) (by decide))]
    exact h0
  | 8, hx =>
    cases hx
    have h0 : H[h 12]? = some (vp_cell ci (602, .inl (A 12))) := hP 8 _ rfl
    show H[h 12]? = some (vp_cell ci (602, .inl (A' 12)))
    rw [vc_i (hA (12, 602) (by decide))]
    exact h0
  | 9, hx =>
    cases hx
    have h0 : H[h 13]? = some (vp_cell ci (2408, .inl (A 13))) := hP 9 _ rfl
    show H[h 13]? = some (vp_cell ci (2408, .inl (A' 13)))
    rw [vc_i (hA (13, 2408) (by decide))]
    exact h0
  | 10, hx =>
    cases hx
    have h0 : H[h 14]? = some (vp_cell ci (602, .inl (A 14))) := hP 10 _ rfl
    show H[h 14]? = some (vp_cell ci (602, .inl (A' 14)))
    rw [vc_i (hA (14, 602) (by decide))]
    exact h0
  | 11, hx =>
    cases hx
    have h0 : H[h 15]? = some (vp_cell cy (120400, .inl (A 15))) := hP 11 _ rfl
    show H[h 15]? = some (vp_cell cy (120400, .inl (A' 15)))
    rw [vc_i (hA (15, 120400) (by decide))]
    exact h0
  | 12, hx =>
    cases hx
    have h0 : H[h 16]? = some (vp_cell ci (128, .inl (A 16))) := hP 12 _ rfl
    show H[h 16]? = some (vp_cell ci (128, .inl (A' 16)))
    rw [vc_i (hA (16, 128) (by decide))]
    exact h0
  | 13, hx =>
    cases hx
    have h0 : H[h 17]? = some (vp_cell ci (10, .inl (A 17))) := hP 13 _ rfl
    show H[h 17]? = some (vp_cell ci (10, .inl (A' 17)))
    rw [vc_i (hA (17, 10) (by decide))]
    exact h0
  | 14, hx =>
    cases hx
    have h0 : H[h 18]? = some (vp_cell ci (2, .inl (A 18))) := hP 14 _ rfl
    show H[h 18]? = some (vp_cell ci (2, .inl (A' 18)))
    rw [vc_i (hA (18, 2) (by decide))]
    exact h0
  | 15, hx =>
    cases hx
    have h0 : H[h 19]? = some (vp_cell ci (16, .inl (A 19))) := hP 15 _ rfl
    show H[h 19]? = some (vp_cell ci (16, .inl (A' 19)))
    rw [vc_i (hA (19, 16) (by decide))]
    exact h0
  | 16, hx =>
    cases hx
    have h0 : H[h 20]? = some (vp_cell cy (192, .inl (A 20))) := hP 16 _ rfl
    show H[h 20]? = some (vp_cell cy (192, .inl (A' 20)))
    rw [vc_i (hA (20, 192) (by decide))]
    exact h0
  | 17, hx =>
    cases hx
    have h0 : H[h 21]? = some (vp_cell ci (16, .inl (A 21))) := hP 17 _ rfl
    show H[h 21]? = some (vp_cell ci (16, .inl (A' 21)))
    rw [vc_i (hA (21, 16) (by decide))]
    exact h0
  | 18, hx =>
    cases hx
    have h0 : H[h 22]? = some (vp_cell cy (1536, .inl (A 22))) := hP 18 _ rfl
    show H[h 22]? = some (vp_cell cy (1536, .inl (A' 22)))
    rw [vc_i (hA (22, 1536) (by decide))]
    exact h0
  | 19, hx =>
    cases hx
    have h0 : H[h 23]? = some (vp_cell ci (2, .inl (A 23))) := hP 19 _ rfl
    show H[h 23]? = some (vp_cell ci (2, .inl (A' 23)))
    rw [vc_i (hA (23, 2) (by decide))]
    exact h0
  | 20, hx =>
    cases hx
    have h0 : H[h 24]? = some (vp_cell ci (64, .inl (A 24))) := hP 20 _ rfl
    show H[h 24]? = some (vp_cell ci (64, .inl (A' 24)))
    rw [vc_i (hA (24, 64) (by decide))]
    exact h0
  | 21, hx =>
    cases hx
    have h0 : H[h 30]? = some (vp_cell ci (64, .inl (A 30))) := hP 21 _ rfl
    show H[h 30]? = some (vp_cell ci (64, .inl (A' 30)))
    rw [vc_i (hA (30, 64) (by decide))]
    exact h0
  | 22, hx =>
    cases hx
    have h0 : H[h 31]? = some (vp_cell ci (5, .inl (A 31))) := hP 22 _ rfl
    show H[h 31]? = some (vp_cell ci (5, .inl (A' 31)))
    rw [vc_i (hA (31, 5) (by decide))]
    exact h0
  | 23, hx =>
    cases hx
    have h0 : H[h 32]? = some (vp_cell ci (2048, .inl (A 32))) := hP 23 _ rfl
    show H[h 32]? = some (vp_cell ci (2048, .inl (A' 32)))
    rw [vc_i (hA (32, 2048) (by decide))]
    exact h0
  | 24, hx =>
    cases hx
    have h0 : H[h 34]? = some (vp_cell ci (301, .inl (A 34))) := hP 24 _ rfl
    show H[h 34]? = some (vp_cell ci (301, .inl (A' 34)))
    rw [vc_i (hA (34, 301) (by decide))]
    exact h0
  | 25, hx =>
    cases hx
    have h0 : H[h 35]? = some (vp_cell cy (16, .inl (A 35))) := hP 25 _ rfl
    show H[h 35]? = some (vp_cell cy (16, .inl (A' 35)))
    rw [vc_i (hA (35, 16) (by decide))]
    exact h0
  | n + 26, hx => exact absurd (List.getElem?_eq_some_iff.mp hx).1 (by show ¬ n + 26 < 26; omega)
theorem met_post {l : Launch} {y : MethodName} {ws : List Cond} {rm : Room} {Pc : Array Value → State → Prop} {Qc Qc' : Array Value → State → Outcome → State → Prop} {mc ms : Nat} {free : Addr → Prop} (h : Met l y ws rm Pc Qc mc ms free) (hq : ∀ a st o t, Qc a st o t → Qc' a st o t) : Met l y ws rm Pc Qc' mc ms free := by
  intro p e h1 h2 h3 s m args below h4 h5 h6 h7
  obtain ⟨n, o, a, b, c, d, f⟩ := h p e h1 h2 h3 s m args below h4 h5 h6 h7
  exact ⟨n, o, a, b, c, hq _ _ _ _ d, f⟩
theorem mMi_ren {l : Launch} {y : MethodName} {ws : List Cond} {rm : Room} {av : List Value} {D : va_G} {cy ci : ClassId} {h : Nat → Nat} {I : Nat → Int32} {A : Nat → Nat → Int32} {o o' : Int32 × MS} (hm : mMi l y ws rm av D cy ci h I A o) (e1 : o'.1 = o.1) (hI : ∀ k ∈ mIs, o'.2.1 k = o.2.1 k) (hA : ∀ q ∈ mSz, ∀ i, i < q.2 → o'.2.2 q.1 i = o.2.2 q.1 i) : mMi l y ws rm av D cy ci h I A o' := fun sz => met_post (hm sz) (fun a st oo t hq => by
  obtain ⟨⟨r, u, e2, hp, hb⟩, hF⟩ := hq
  exact ⟨⟨r, u, e2, by rw [e1]; exact hp, m_ren hI hA hb⟩, hF⟩)
theorem upd_ne {f : Nat → Int32} {k i : Nat} {x : Int32} (h : i ≠ k) : upd f k x i = f i := if_neg h
theorem upd_self {f : Nat → Int32} {k : Nat} {x : Int32} : upd f k x k = x := if_pos rfl
theorem keep_l {o : Int32 × MS} (n : Nat) : ∀ (j : Nat) (I : Nat → Int32) (A : Nat → Nat → Int32), j ≤ 64 → f_keep_2 n (nI j) I A = some o → (∀ i, i < j → A 30 i = A 24 i) → (∀ i, i < 64 → o.2.2 30 i = A 24 i) ∧ o.2.2 31 0 = I 25 ∧ o.2.2 31 1 = I 26 ∧ o.2.2 31 2 = I 27 ∧ o.2.2 31 3 = I 28 ∧ o.2.2 31 4 = I 29 := by
  induction n with
  | zero => intro j I A _ hf; cases hf
  | succ n ih =>
    intro j I A hj hf hinv
    replace hf : f_keep_2s (f_keep_2 n) (nI j) I A = some o := hf
    unfold f_keep_2s at hf
    rcases m_ifE hf with ⟨hc, hf⟩ | ⟨hc, hf⟩
    · have hj4 : j = 64 := Classical.byContradiction (fun h => nI_ge (a := j) (b := 64) (by omega) (by decide) hc)
      obtain ⟨-, hf⟩ := m_chkE hf
      obtain ⟨A1, e1, hf⟩ := m_bndE hf
      obtain ⟨-, hf⟩ := m_chkE hf
      obtain ⟨A2, e2, hf⟩ := m_bndE hf
      obtain ⟨-, hf⟩ := m_chkE hf
      obtain ⟨A3, e3, hf⟩ := m_bndE hf
      obtain ⟨-, hf⟩ := m_chkE hf
      obtain ⟨A4, e4, hf⟩ := m_bndE hf
      obtain ⟨-, hf⟩ := m_chkE hf
      obtain ⟨A5, e5, hf⟩ := m_bndE hf
      cases hf
      subst e1 e2 e3 e4 e5
      exact ⟨fun i hi => hinv i (by omega), rfl, rfl, rfl, rfl, rfl⟩
    · have hj4 : j < 64 := Classical.byContradiction (fun h => hc (nI_le (a := 64) (b := j) (by omega) (by omega)))
      obtain ⟨-, hf⟩ := m_chkE hf
      obtain ⟨v6, e6, hf⟩ := m_bndE hf
      obtain ⟨-, hf⟩ := m_chkE hf
      obtain ⟨A7, e7, hf⟩ := m_bndE hf
      obtain ⟨v8, e8, hf⟩ := m_bndE hf
      rw [nI_clamp (by omega : j < 2 ^ 31)] at e6 e7
      rw [e8, ← nI_succ] at hf
      have h24 : A7 24 = A 24 := by rw [e7]; exact va_up_ne _ _ (by decide)
      have h30 : A7 30 = upd (A 30) j v6 := by rw [e7]; exact va_up_self _ _ _
      have h1 := ih (j + 1) I A7 (by omega) hf (fun i hi => by
        rw [h24, h30]
        by_cases hij : i = j
        · rw [hij, upd_self, e6]
        · rw [upd_ne hij]; exact hinv i (by omega))
      rw [h24] at h1
      exact h1
theorem mMv_ren {l : Launch} {y : MethodName} {ws : List Cond} {rm : Room} {av : List Value} {D : va_G} {cy ci : ClassId} {h : Nat → Nat} {I : Nat → Int32} {A : Nat → Nat → Int32} {o o' : Int32 × MS} (hm : mMv l y ws rm av D cy ci h I A o) (hI : ∀ k ∈ mIs, o'.2.1 k = o.2.1 k) (hA : ∀ q ∈ mSz, ∀ i, i < q.2 → o'.2.2 q.1 i = o.2.2 q.1 i) : mMv l y ws rm av D cy ci h I A o' := fun sz => met_post (hm sz) (fun a st oo t hq => by
  obtain ⟨⟨u, e2, hp, hb⟩, hF⟩ := hq
  exact ⟨⟨u, e2, hp, m_ren hI hA hb⟩, hF⟩)
theorem m_ifP {β : Type} {c : Prop} [Decidable c] {a b : Option β} (h : c) : m_if c a b = a := if_pos h
theorem m_ifN {β : Type} {c : Prop} [Decidable c] {a b : Option β} (h : ¬ c) : m_if c a b = b := if_neg h
theorem m_chkP {β : Type} {c : Prop} [Decidable c] {k : Option β} (h : c) : m_chk c k = k := if_pos h
theorem keep_t (n : Nat) : ∀ (j : Nat) (I : Nat → Int32) (A : Nat → Nat → Int32), j ≤ 64 → 64 < j + n → ∃ o : Int32 × MS, f_keep_2 n (nI j) I A = some o := by
  induction n with
  | zero => intro j I A h1 h2; omega
  | succ n ih =>
    intro j I A hj hn
    show ∃ o : Int32 × MS, f_keep_2s (f_keep_2 n) (nI j) I A = some o
    unfold f_keep_2s
    by_cases hc : (64 : Int32) ≤ nI j
    · rw [m_ifP hc, m_chkP (by decide), m_bnd, m_chkP (by decide), m_bnd, m_chkP (by decide), m_bnd, m_chkP (by decide), m_bnd, m_chkP (by decide), m_bnd]
      exact ⟨_, rfl⟩
    · have hj4 : j < 64 := Classical.byContradiction (fun h => hc (nI_le (a := 64) (b := j) (by omega) (by omega)))
      have hin : ¬ (nI j < 0 ∨ 64 ≤ (nI j).toNatClampNeg) := nI_in hj4 (by decide)
      rw [m_ifN hc, m_chkP hin, m_bnd, m_chkP hin, m_bnd, m_bnd, ← nI_succ]
      exact ih (j + 1) I _ (by omega) (by omega)
/-- the state behind keep: the men and the five numbers kept beside -/
noncomputable def nA (I : Nat → Int32) (A : Nat → Nat → Int32) : Nat → Nat → Int32 := va_up (va_up A 30 (A 24)) 31 (fun i => if i = 0 then I 25 else if i = 1 then I 26 else if i = 2 then I 27 else if i = 3 then I 28 else I 29)
theorem nA_30 {I : Nat → Int32} {A : Nat → Nat → Int32} : nA I A 30 = A 24 := (va_up_ne _ _ (by decide)).trans (va_up_self _ _ _)
theorem nA_o {I : Nat → Int32} {A : Nat → Nat → Int32} {j : Nat} (h0 : j ≠ 30) (h1 : j ≠ 31) : nA I A j = A j := (va_up_ne _ _ h1).trans (va_up_ne _ _ h0)
noncomputable def f_keep (I : Nat → Int32) (A : Nat → Nat → Int32) : Option (Int32 × MS) := some (0, (I, nA I A))
theorem sz_30 : ∀ q ∈ mSz, q.1 = 30 → q.2 = 64 := by decide
theorem sz_31 : ∀ q ∈ mSz, q.1 = 31 → q.2 = 5 := by decide
theorem sz_24 : ∀ q ∈ mSz, q.1 = 24 → q.2 = 64 := by decide
theorem c_keep {l : Launch} {D : va_G} {cy ci : ClassId} {h : Nat → Nat} {I : Nat → Int32} {A : Nat → Nat → Int32} {o : Int32 × MS} (hf : f_keep  I A = some o) : mMv l yX12_keep wsX12_keep ({ frames := 0, cells := 0, slots := 0, locals := 0 } : Room) [.ref (h 0)] D cy ci h I A o := by
  obtain ⟨o0, h0⟩ := keep_t mFuel 0 I A (by decide) (by decide)
  cases hf
  have a := fr_keep_0 h0
  have b := keep_l mFuel 0 I A (by decide) h0 (fun i hi => absurd hi (Nat.not_lt_zero _))
  refine mMv_ren (c0_keep h0) (fun k _ => (a.1 k List.not_mem_nil).symm) (fun q hq i hi => ?_)
  show nA I A q.1 i = o0.2.2 q.1 i
  by_cases h31 : q.1 = 31
  · have hi5 : i < 5 := by rw [sz_31 q hq h31] at hi; exact hi
    rw [h31]
    match i, hi5 with
    | 0, _ => exact b.2.1.symm
    | 1, _ => exact b.2.2.1.symm
    | 2, _ => exact b.2.2.2.1.symm
    | 3, _ => exact b.2.2.2.2.1.symm
    | 4, _ => exact b.2.2.2.2.2.symm
  · by_cases h30 : q.1 = 30
    · have hi5 : i < 64 := by rw [sz_30 q hq h30] at hi; exact hi
      rw [h30, nA_30]
      exact (b.1 i hi5).symm
    · rw [nA_o h30 h31, a.2 q.1 (by simp [h30, h31])]
end
section
theorem hw_kingOf : ∀ w ∈ wsX120, w ∈ wsX12_kingOf := by decide +kernel
theorem fl_kingOf_24 : Cond.fieldLink RX12 70 "MoveTextsModel" "men" "[I" ∈ wsX12_kingOf := by decide +kernel
theorem hd_kingOf : yX12_kingOf.cls = RX12 ∧ yX12_kingOf.cls ≠ "java/lang/invoke/MethodHandle" ∧ yX12_kingOf.cls ≠ "java/lang/invoke/VarHandle" ∧ (parseMethodDescriptor yX12_kingOf.desc).map (fun d => d.parameters.length) = some 1 := by decide +kernel
noncomputable def f_kingOf_31 (self4 : Int32 → Int32 → Int32 → (Nat → Int32) → (Nat → Nat → Int32) → Option (Int32 × MS)) (x1 : Int32) (x3 : Int32) (t0 : Int32) (I : Nat → Int32) (A : Nat → Nat → Int32) : Option (Int32 × MS) :=
  m_bnd (x3 + (1 : Int32)) (fun v1 =>
  self4 x1 t0 v1 I A)

set_option maxRecDepth 100000 in
set_option maxHeartbeats 4000000 in
theorem w_kingOf_31 {p : Program} {l : Launch} {e : Env} {s : State} {m : MethodId} {args : Array Value} {below : List Frame} {meth : Method} {c : Code} {Q : State → Prop} {D : va_G} {cy ci : ClassId} {h : Nat → Nat} {A0 : Nat → Prop} {o : Int32 × MS} (X : CallFix p m c cX12_kingOf 4 s args wsX12_kingOf RX12) (hret : mRi p l e ({ frames := 0, cells := 0, slots := 0, locals := 0 } : Room) s m args below meth c Q cX12_kingOf D cy ci h A0 .int o) {self4 : Int32 → Int32 → Int32 → (Nat → Int32) → (Nat → Nat → Int32) → Option (Int32 × MS)} (hself4 : ∀ (x1 : Int32) (x2 : Int32) (x3 : Int32) (I : Nat → Int32) (A : Nat → Nat → Int32) (H : Heap) (locs : List Loc) (ls : Array Slot), self4 x1 x2 x3 I A = some o → mH D cy ci h A0 s H locs I A → lv_has ls 4 [(0, .ref (h 0)), (1, .int x1), (2, .int x2), (3, .int x3)] → W p l e ({ frames := 0, cells := 0, slots := 0, locals := 0 } : Room) s m args below meth c H locs 0 0 Q (F0 m 4 ls [])) {x1 : Int32} {x3 : Int32} {t0 : Int32} {I : Nat → Int32} {A : Nat → Nat → Int32} {H : Heap} {locs : List Loc} {ls : Array Slot} (hf : f_kingOf_31 self4 x1 x3 t0 I A = some o) (hM : mH D cy ci h A0 s H locs I A) (hl : lv_has ls 4 [(0, .ref (h 0)), (1, .int x1), (3, .int x3)]) : W p l e ({ frames := 0, cells := 0, slots := 0, locals := 0 } : Room) s m args below meth c H locs 0 0 Q (F0 m 31 ls [.int t0]) := by
  obtain ⟨hx, hb, hml, hown, hts⟩ := id X
  unfold f_kingOf_31 at hf
  refine lv_istore_n (lv' := [(2, .int t0), (0, .ref (h 0)), (1, .int x1), (3, .int x3)]) hx hb dX12_kingOf_31 rfl hl (by decide) rfl (fun ls hl => ?_)
  obtain ⟨v1, ev, hf⟩ := m_bndE hf
  refine lv_iinc (v := v1) (lv' := [(3, .int v1), (2, .int t0), (0, .ref (h 0)), (1, .int x1)]) hx hb dX12_kingOf_32 hl (k := 3) rfl (by rw [ev]; rfl) (by decide) rfl (fun ls hl => ?_)
  clear ev
  refine lv_goto (tgt := 4) hx hb dX12_kingOf_35 (by decide) ?_
  exact hself4 _ _ _ _ _ _ _ _ hf hM (lv_sub hl [2, 3, 1, 0] rfl)
noncomputable def f_kingOf_4s (self4 : Int32 → Int32 → Int32 → (Nat → Int32) → (Nat → Nat → Int32) → Option (Int32 × MS)) (x1 : Int32) (x2 : Int32) (x3 : Int32) (I : Nat → Int32) (A : Nat → Nat → Int32) : Option (Int32 × MS) :=
  m_if ((64 : Int32) ≤ x3) (
  some (x2, (I, A))
  ) (
  m_chk (¬ (x3 < 0 ∨ 64 ≤ (x3).toNatClampNeg)) (
  m_bnd (A 24 (x3).toNatClampNeg) (fun v1 =>
  m_bnd ((8 : Int32) * x1) (fun v2 =>
  m_bnd ((6 : Int32) + v2) (fun v3 =>
  m_if (v1 = v3) (
  f_kingOf_31 self4 x1 x3 x3 I A
  ) (
  f_kingOf_31 self4 x1 x3 x2 I A
  )))))
  )

set_option maxRecDepth 100000 in
set_option maxHeartbeats 4000000 in
theorem ws_kingOf_4 {p : Program} {l : Launch} {e : Env} {s : State} {m : MethodId} {args : Array Value} {below : List Frame} {meth : Method} {c : Code} {Q : State → Prop} {D : va_G} {cy ci : ClassId} {h : Nat → Nat} {A0 : Nat → Prop} {o : Int32 × MS} (X : CallFix p m c cX12_kingOf 4 s args wsX12_kingOf RX12) (hret : mRi p l e ({ frames := 0, cells := 0, slots := 0, locals := 0 } : Room) s m args below meth c Q cX12_kingOf D cy ci h A0 .int o) {self4 : Int32 → Int32 → Int32 → (Nat → Int32) → (Nat → Nat → Int32) → Option (Int32 × MS)} (hself4 : ∀ (x1 : Int32) (x2 : Int32) (x3 : Int32) (I : Nat → Int32) (A : Nat → Nat → Int32) (H : Heap) (locs : List Loc) (ls : Array Slot), self4 x1 x2 x3 I A = some o → mH D cy ci h A0 s H locs I A → lv_has ls 4 [(0, .ref (h 0)), (1, .int x1), (2, .int x2), (3, .int x3)] → W p l e ({ frames := 0, cells := 0, slots := 0, locals := 0 } : Room) s m args below meth c H locs 0 0 Q (F0 m 4 ls [])) {x1 : Int32} {x2 : Int32} {x3 : Int32} {I : Nat → Int32} {A : Nat → Nat → Int32} {H : Heap} {locs : List Loc} {ls : Array Slot} (hf : f_kingOf_4s self4 x1 x2 x3 I A = some o) (hM : mH D cy ci h A0 s H locs I A) (hl : lv_has ls 4 [(0, .ref (h 0)), (1, .int x1), (2, .int x2), (3, .int x3)]) : W p l e ({ frames := 0, cells := 0, slots := 0, locals := 0 } : Room) s m args below meth c H locs 0 0 Q (F0 m 4 ls []) := by
  obtain ⟨hx, hb, hml, hown, hts⟩ := id X
  unfold f_kingOf_4s at hf
  refine lv_iload_n hx hb dX12_kingOf_4 rfl (lv_at hl 3 rfl) ?_
  refine lv_bipush (v := (64 : Int32)) hx hb dX12_kingOf_5 (by decide) ?_
  refine lv_icmp_ge (tgt := 38) hx hb dX12_kingOf_7 (by decide) (fun cc1 => ?_) (fun cc1 => ?_)
  · replace hf := m_ifT hf cc1
    refine lv_iload_n hx hb dX12_kingOf_38 rfl (lv_at hl 2 rfl) ?_
    cases hf
    exact hret H locs _ ls hM rfl dX12_kingOf_39
  · replace hf := m_ifF hf cc1
    refine lv_aload_n hx hb dX12_kingOf_10 rfl (lv_at hl 0 rfl) ?_
    refine m_get (v := .ref (h 24)) X hw_kingOf hM 24 (by decide) fl_kingOf_24 rfl dX12_kingOf_11 ?_
    refine lv_iload_n hx hb dX12_kingOf_14 rfl (lv_at hl 3 rfl) ?_
    obtain ⟨cd, hf⟩ := m_chkE hf
    refine m_iald X hM 24 20 64 rfl cd dX12_kingOf_15 ?_
    clear cd
    obtain ⟨v1, ev, hf⟩ := m_bndE hf
    refine m_top ev ?_
    clear ev
    refine lv_bipush (v := (6 : Int32)) hx hb dX12_kingOf_16 (by decide) ?_
    refine lv_bipush (v := (8 : Int32)) hx hb dX12_kingOf_18 (by decide) ?_
    refine lv_iload_n hx hb dX12_kingOf_20 rfl (lv_at hl 1 rfl) ?_
    refine lv_imul hx hb dX12_kingOf_21 ?_
    obtain ⟨v2, ev, hf⟩ := m_bndE hf
    refine m_top ev ?_
    clear ev
    refine lv_iadd hx hb dX12_kingOf_22 ?_
    obtain ⟨v3, ev, hf⟩ := m_bndE hf
    refine m_top ev ?_
    clear ev
    refine lv_icmp_ne (tgt := 30) hx hb dX12_kingOf_23 (by decide) (fun cc1 => ?_) (fun cc1 => ?_)
    · replace hf := m_ifF hf cc1
      refine lv_iload_n hx hb dX12_kingOf_30 rfl (lv_at hl 2 rfl) ?_
      exact w_kingOf_31 X hret hself4 hf hM (lv_sub hl [0, 1, 3] rfl)
    · replace hf := m_ifT hf cc1
      refine lv_iload_n hx hb dX12_kingOf_26 rfl (lv_at hl 3 rfl) ?_
      refine lv_goto (tgt := 31) hx hb dX12_kingOf_27 (by decide) ?_
      exact w_kingOf_31 X hret hself4 hf hM (lv_sub hl [0, 1, 3] rfl)
noncomputable def f_kingOf_4 : Nat → Int32 → Int32 → Int32 → (Nat → Int32) → (Nat → Nat → Int32) → Option (Int32 × MS)
  | 0 => fun _ _ _ _ _ => none
  | n + 1 => f_kingOf_4s (f_kingOf_4 n)
theorem w_kingOf_4 {p : Program} {l : Launch} {e : Env} {s : State} {m : MethodId} {args : Array Value} {below : List Frame} {meth : Method} {c : Code} {Q : State → Prop} {D : va_G} {cy ci : ClassId} {h : Nat → Nat} {A0 : Nat → Prop} {o : Int32 × MS} (X : CallFix p m c cX12_kingOf 4 s args wsX12_kingOf RX12) (hret : mRi p l e ({ frames := 0, cells := 0, slots := 0, locals := 0 } : Room) s m args below meth c Q cX12_kingOf D cy ci h A0 .int o) (n : Nat) : ∀ (x1 : Int32) (x2 : Int32) (x3 : Int32) (I : Nat → Int32) (A : Nat → Nat → Int32) (H : Heap) (locs : List Loc) (ls : Array Slot), f_kingOf_4 n x1 x2 x3 I A = some o → mH D cy ci h A0 s H locs I A → lv_has ls 4 [(0, .ref (h 0)), (1, .int x1), (2, .int x2), (3, .int x3)] → W p l e ({ frames := 0, cells := 0, slots := 0, locals := 0 } : Room) s m args below meth c H locs 0 0 Q (F0 m 4 ls []) := by
  induction n with
  | zero => intro x1 x2 x3 I A H locs ls hf; cases hf
  | succ n ih => intro x1 x2 x3 I A H locs ls hf hM hl; exact ws_kingOf_4 X hret (self4 := f_kingOf_4 n) ih hf hM hl
noncomputable def f_kingOf_0 (x1 : Int32) (I : Nat → Int32) (A : Nat → Nat → Int32) : Option (Int32 × MS) :=
  f_kingOf_4 mFuel x1 (0 : Int32) (0 : Int32) I A

set_option maxRecDepth 100000 in
set_option maxHeartbeats 4000000 in
theorem w_kingOf_0 {p : Program} {l : Launch} {e : Env} {s : State} {m : MethodId} {args : Array Value} {below : List Frame} {meth : Method} {c : Code} {Q : State → Prop} {D : va_G} {cy ci : ClassId} {h : Nat → Nat} {A0 : Nat → Prop} {o : Int32 × MS} (X : CallFix p m c cX12_kingOf 4 s args wsX12_kingOf RX12) (hret : mRi p l e ({ frames := 0, cells := 0, slots := 0, locals := 0 } : Room) s m args below meth c Q cX12_kingOf D cy ci h A0 .int o) {x1 : Int32} {I : Nat → Int32} {A : Nat → Nat → Int32} {H : Heap} {locs : List Loc} {ls : Array Slot} (hf : f_kingOf_0 x1 I A = some o) (hM : mH D cy ci h A0 s H locs I A) (hl : lv_has ls 4 [(0, .ref (h 0)), (1, .int x1)]) : W p l e ({ frames := 0, cells := 0, slots := 0, locals := 0 } : Room) s m args below meth c H locs 0 0 Q (F0 m 0 ls []) := by
  obtain ⟨hx, hb, hml, hown, hts⟩ := id X
  unfold f_kingOf_0 at hf
  refine lv_iconst (v := (0 : Int32)) hx hb dX12_kingOf_0 (by decide) ?_
  refine lv_istore_n (lv' := [(2, .int (0 : Int32)), (0, .ref (h 0)), (1, .int x1)]) hx hb dX12_kingOf_1 rfl hl (by decide) rfl (fun ls hl => ?_)
  refine lv_iconst (v := (0 : Int32)) hx hb dX12_kingOf_2 (by decide) ?_
  refine lv_istore_n (lv' := [(3, .int (0 : Int32)), (2, .int (0 : Int32)), (0, .ref (h 0)), (1, .int x1)]) hx hb dX12_kingOf_3 rfl hl (by decide) rfl (fun ls hl => ?_)
  exact w_kingOf_4 X hret _ _ _ _ _ _ _ _ _ hf hM (lv_sub hl [2, 3, 1, 0] rfl)
noncomputable def f_kingOf (x1 : Int32) (I : Nat → Int32) (A : Nat → Nat → Int32) : Option (Int32 × MS) := f_kingOf_0 x1 I A
theorem c_kingOf {l : Launch} {D : va_G} {cy ci : ClassId} {h : Nat → Nat} {x1 : Int32} {I : Nat → Int32} {A : Nat → Nat → Int32} {o : Int32 × MS} (hf : f_kingOf x1 I A = some o) : mMi l yX12_kingOf wsX12_kingOf ({ frames := 0, cells := 0, slots := 0, locals := 0 } : Room) [.ref (h 0), .int x1] D cy ci h I A o :=
  m_entryI (cc := cX12_kingOf) (maxL := 4) (by decide) rfl rfl (Nat.le_of_ble_eq_true rfl) (fun p e s m args below meth c A0 Q H locs ls X hret hM hl => w_kingOf_0 X hret hf hM (lv_sub hl [0, 1] rfl))
theorem hd_isInCheck : yX12_isInCheck.cls = RX12 ∧ yX12_isInCheck.cls ≠ "java/lang/invoke/MethodHandle" ∧ yX12_isInCheck.cls ≠ "java/lang/invoke/VarHandle" ∧ (parseMethodDescriptor yX12_isInCheck.desc).map (fun d => d.parameters.length) = some 1 := by decide +kernel
noncomputable def f_isInCheck_0 (x1 : Int32) (I : Nat → Int32) (A : Nat → Nat → Int32) : Option (Int32 × MS) :=
  m_cl (f_kingOf x1 I A) (fun r1 Ic1 Ac1 =>
  m_bnd ((1 : Int32) - x1) (fun v2 =>
  m_cl (f_isAttacked r1 v2 Ic1 Ac1) (fun r3 Ic3 Ac3 =>
  m_chk (vp_nar .boolean r3 = r3) (some (r3, (Ic3, Ac3))))))

set_option maxRecDepth 100000 in
set_option maxHeartbeats 4000000 in
theorem w_isInCheck_0 {p : Program} {l : Launch} {e : Env} {s : State} {m : MethodId} {args : Array Value} {below : List Frame} {meth : Method} {c : Code} {Q : State → Prop} {D : va_G} {cy ci : ClassId} {h : Nat → Nat} {A0 : Nat → Prop} {o : Int32 × MS} (X : CallFix p m c cX12_isInCheck 2 s args wsX12_isInCheck RX12) (hret : mRi p l e ({ frames := 3, cells := 0, slots := 0, locals := 77 } : Room) s m args below meth c Q cX12_isInCheck D cy ci h A0 .boolean o) {x1 : Int32} {I : Nat → Int32} {A : Nat → Nat → Int32} {H : Heap} {locs : List Loc} {ls : Array Slot} (hf : f_isInCheck_0 x1 I A = some o) (hM : mH D cy ci h A0 s H locs I A) (hl : lv_has ls 2 [(0, .ref (h 0)), (1, .int x1)]) : W p l e ({ frames := 3, cells := 0, slots := 0, locals := 77 } : Room) s m args below meth c H locs 0 0 Q (F0 m 0 ls []) := by
  obtain ⟨hx, hb, hml, hown, hts⟩ := id X
  unfold f_isInCheck_0 at hf
  refine lv_aload_n hx hb dX12_isInCheck_0 rfl (lv_at hl 0 rfl) ?_
  refine lv_aload_n hx hb dX12_isInCheck_1 rfl (lv_at hl 0 rfl) ?_
  refine lv_iload_n hx hb dX12_isInCheck_2 rfl (lv_at hl 1 rfl) ?_
  obtain ⟨o1, ho, hf⟩ := m_clE hf
  refine m_callVi X hM (c_kingOf ho) gX12_isInCheck_X12_kingOf rfl ⟨rfl, rfl⟩ hd_kingOf ⟨Nat.le_of_ble_eq_true rfl, Nat.le_of_ble_eq_true rfl⟩ rfl hl.1 rfl (Nat.le_of_ble_eq_true rfl) dX12_isInCheck_3 (fun H locs hM => ?_)
  clear ho
  refine lv_iconst (v := (1 : Int32)) hx hb dX12_isInCheck_6 (by decide) ?_
  refine lv_iload_n hx hb dX12_isInCheck_7 rfl (lv_at hl 1 rfl) ?_
  refine lv_isub hx hb dX12_isInCheck_8 ?_
  obtain ⟨v2, ev, hf⟩ := m_bndE hf
  refine m_top ev ?_
  clear ev
  obtain ⟨o3, ho, hf⟩ := m_clE hf
  refine m_callVi X hM (c_isAttacked ho) gX12_isInCheck_X12_isAttacked rfl ⟨rfl, rfl⟩ hd_isAttacked ⟨Nat.le_of_ble_eq_true rfl, Nat.le_of_ble_eq_true rfl⟩ rfl hl.1 rfl (Nat.le_of_ble_eq_true rfl) dX12_isInCheck_9 (fun H locs hM => ?_)
  clear ho
  obtain ⟨cd, hf⟩ := m_chkE hf
  cases hf
  exact hret H locs _ ls hM (m_nb cd) dX12_isInCheck_12
noncomputable def f_isInCheck (x1 : Int32) (I : Nat → Int32) (A : Nat → Nat → Int32) : Option (Int32 × MS) := f_isInCheck_0 x1 I A
theorem c_isInCheck {l : Launch} {D : va_G} {cy ci : ClassId} {h : Nat → Nat} {x1 : Int32} {I : Nat → Int32} {A : Nat → Nat → Int32} {o : Int32 × MS} (hf : f_isInCheck x1 I A = some o) : mMi l yX12_isInCheck wsX12_isInCheck ({ frames := 3, cells := 0, slots := 0, locals := 77 } : Room) [.ref (h 0), .int x1] D cy ci h I A o :=
  m_entryI (cc := cX12_isInCheck) (maxL := 2) (by decide) rfl rfl (Nat.le_of_ble_eq_true rfl) (fun p e s m args below meth c A0 Q H locs ls X hret hM hl => w_isInCheck_0 X hret hf hM (lv_sub hl [0, 1] rfl))
theorem hw_bringBack : ∀ w ∈ wsX120, w ∈ wsX12_bringBack := by decide +kernel
theorem fl_bringBack_24 : Cond.fieldLink RX12 70 "MoveTextsModel" "men" "[I" ∈ wsX12_bringBack := by decide +kernel
theorem fl_bringBack_25 : Cond.fieldLink RX12 121 "MoveTextsModel" "side" "I" ∈ wsX12_bringBack := by decide +kernel
theorem fl_bringBack_26 : Cond.fieldLink RX12 124 "MoveTextsModel" "rights" "I" ∈ wsX12_bringBack := by decide +kernel
theorem fl_bringBack_27 : Cond.fieldLink RX12 127 "MoveTextsModel" "passed" "I" ∈ wsX12_bringBack := by decide +kernel
theorem fl_bringBack_28 : Cond.fieldLink RX12 130 "MoveTextsModel" "clock" "I" ∈ wsX12_bringBack := by decide +kernel
theorem fl_bringBack_29 : Cond.fieldLink RX12 133 "MoveTextsModel" "number" "I" ∈ wsX12_bringBack := by decide +kernel
theorem fl_bringBack_30 : Cond.fieldLink RX12 73 "MoveTextsModel" "keptMen" "[I" ∈ wsX12_bringBack := by decide +kernel
theorem fl_bringBack_31 : Cond.fieldLink RX12 76 "MoveTextsModel" "keptRest" "[I" ∈ wsX12_bringBack := by decide +kernel
theorem hd_bringBack : yX12_bringBack.cls = RX12 ∧ yX12_bringBack.cls ≠ "java/lang/invoke/MethodHandle" ∧ yX12_bringBack.cls ≠ "java/lang/invoke/VarHandle" ∧ (parseMethodDescriptor yX12_bringBack.desc).map (fun d => d.parameters.length) = some 0 := by decide +kernel
noncomputable def f_bringBack_2s (self2 : Int32 → (Nat → Int32) → (Nat → Nat → Int32) → Option (Int32 × MS)) (x1 : Int32) (I : Nat → Int32) (A : Nat → Nat → Int32) : Option (Int32 × MS) :=
  m_if ((64 : Int32) ≤ x1) (
  m_chk (¬ ((0 : Int32) < 0 ∨ 5 ≤ ((0 : Int32)).toNatClampNeg)) (
  m_bnd (A 31 ((0 : Int32)).toNatClampNeg) (fun v1 =>
  m_bnd (upd I 25 v1) (fun I2 =>
  m_chk (¬ ((1 : Int32) < 0 ∨ 5 ≤ ((1 : Int32)).toNatClampNeg)) (
  m_bnd (A 31 ((1 : Int32)).toNatClampNeg) (fun v3 =>
  m_bnd (upd I2 26 v3) (fun I4 =>
  m_chk (¬ ((2 : Int32) < 0 ∨ 5 ≤ ((2 : Int32)).toNatClampNeg)) (
  m_bnd (A 31 ((2 : Int32)).toNatClampNeg) (fun v5 =>
  m_bnd (upd I4 27 v5) (fun I6 =>
  m_chk (¬ ((3 : Int32) < 0 ∨ 5 ≤ ((3 : Int32)).toNatClampNeg)) (
  m_bnd (A 31 ((3 : Int32)).toNatClampNeg) (fun v7 =>
  m_bnd (upd I6 28 v7) (fun I8 =>
  m_chk (¬ ((4 : Int32) < 0 ∨ 5 ≤ ((4 : Int32)).toNatClampNeg)) (
  m_bnd (A 31 ((4 : Int32)).toNatClampNeg) (fun v9 =>
  m_bnd (upd I8 29 v9) (fun I10 =>
  some (0, (I10, A)))))))))))))))))
  ) (
  m_chk (¬ (x1 < 0 ∨ 64 ≤ (x1).toNatClampNeg)) (
  m_bnd (A 30 (x1).toNatClampNeg) (fun v11 =>
  m_chk (¬ (x1 < 0 ∨ 64 ≤ (x1).toNatClampNeg)) (
  m_bnd (va_up A 24 (upd (A 24) (x1).toNatClampNeg v11)) (fun A12 =>
  m_bnd (x1 + (1 : Int32)) (fun v13 =>
  self2 v13 I A12)))))
  )

set_option maxRecDepth 100000 in
set_option maxHeartbeats 4000000 in
theorem ws_bringBack_2 {p : Program} {l : Launch} {e : Env} {s : State} {m : MethodId} {args : Array Value} {below : List Frame} {meth : Method} {c : Code} {Q : State → Prop} {D : va_G} {cy ci : ClassId} {h : Nat → Nat} {A0 : Nat → Prop} {o : Int32 × MS} (X : CallFix p m c cX12_bringBack 2 s args wsX12_bringBack RX12) (hret : mRv p l e ({ frames := 0, cells := 0, slots := 0, locals := 0 } : Room) s m args below meth c Q cX12_bringBack D cy ci h A0 o) {self2 : Int32 → (Nat → Int32) → (Nat → Nat → Int32) → Option (Int32 × MS)} (hself2 : ∀ (x1 : Int32) (I : Nat → Int32) (A : Nat → Nat → Int32) (H : Heap) (locs : List Loc) (ls : Array Slot), self2 x1 I A = some o → mH D cy ci h A0 s H locs I A → lv_has ls 2 [(0, .ref (h 0)), (1, .int x1)] → W p l e ({ frames := 0, cells := 0, slots := 0, locals := 0 } : Room) s m args below meth c H locs 0 0 Q (F0 m 2 ls [])) {x1 : Int32} {I : Nat → Int32} {A : Nat → Nat → Int32} {H : Heap} {locs : List Loc} {ls : Array Slot} (hf : f_bringBack_2s self2 x1 I A = some o) (hM : mH D cy ci h A0 s H locs I A) (hl : lv_has ls 2 [(0, .ref (h 0)), (1, .int x1)]) : W p l e ({ frames := 0, cells := 0, slots := 0, locals := 0 } : Room) s m args below meth c H locs 0 0 Q (F0 m 2 ls []) := by
  obtain ⟨hx, hb, hml, hown, hts⟩ := id X
  unfold f_bringBack_2s at hf
  refine lv_iload_n hx hb dX12_bringBack_2 rfl (lv_at hl 1 rfl) ?_
  refine lv_bipush (v := (64 : Int32)) hx hb dX12_bringBack_3 (by decide) ?_
  refine lv_icmp_ge (tgt := 26) hx hb dX12_bringBack_5 (by decide) (fun cc1 => ?_) (fun cc1 => ?_)
  · replace hf := m_ifT hf cc1
    refine lv_aload_n hx hb dX12_bringBack_26 rfl (lv_at hl 0 rfl) ?_
    refine lv_aload_n hx hb dX12_bringBack_27 rfl (lv_at hl 0 rfl) ?_
    refine m_get (v := .ref (h 31)) X hw_bringBack hM 31 (by decide) fl_bringBack_31 rfl dX12_bringBack_28 ?_
    refine lv_iconst (v := (0 : Int32)) hx hb dX12_bringBack_31 (by decide) ?_
    obtain ⟨cd, hf⟩ := m_chkE hf
    refine m_iald X hM 31 22 5 rfl cd dX12_bringBack_32 ?_
    clear cd
    obtain ⟨v1, ev, hf⟩ := m_bndE hf
    refine m_top ev ?_
    clear ev
    refine m_put X hw_bringBack hM 25 (by decide) fl_bringBack_25 mi_25 rfl (tyX12_ok 25 (by decide)) dX12_bringBack_33 (fun H locs hM => ?_)
    obtain ⟨I2, ev, hf⟩ := m_bndE hf
    replace hM := m_hI hM ev
    clear ev
    refine lv_aload_n hx hb dX12_bringBack_36 rfl (lv_at hl 0 rfl) ?_
    refine lv_aload_n hx hb dX12_bringBack_37 rfl (lv_at hl 0 rfl) ?_
    refine m_get (v := .ref (h 31)) X hw_bringBack hM 31 (by decide) fl_bringBack_31 rfl dX12_bringBack_38 ?_
    refine lv_iconst (v := (1 : Int32)) hx hb dX12_bringBack_41 (by decide) ?_
    obtain ⟨cd, hf⟩ := m_chkE hf
    refine m_iald X hM 31 22 5 rfl cd dX12_bringBack_42 ?_
    clear cd
    obtain ⟨v3, ev, hf⟩ := m_bndE hf
    refine m_top ev ?_
    clear ev
    refine m_put X hw_bringBack hM 26 (by decide) fl_bringBack_26 mi_26 rfl (tyX12_ok 26 (by decide)) dX12_bringBack_43 (fun H locs hM => ?_)
    obtain ⟨I4, ev, hf⟩ := m_bndE hf
    replace hM := m_hI hM ev
    clear ev
    refine lv_aload_n hx hb dX12_bringBack_46 rfl (lv_at hl 0 rfl) ?_
    refine lv_aload_n hx hb dX12_bringBack_47 rfl (lv_at hl 0 rfl) ?_
    refine m_get (v := .ref (h 31)) X hw_bringBack hM 31 (by decide) fl_bringBack_31 rfl dX12_bringBack_48 ?_
    refine lv_iconst (v := (2 : Int32)) hx hb dX12_bringBack_51 (by decide) ?_
    obtain ⟨cd, hf⟩ := m_chkE hf
    refine m_iald X hM 31 22 5 rfl cd dX12_bringBack_52 ?_
    clear cd
    obtain ⟨v5, ev, hf⟩ := m_bndE hf
    refine m_top ev ?_
    clear ev
    refine m_put X hw_bringBack hM 27 (by decide) fl_bringBack_27 mi_27 rfl (tyX12_ok 27 (by decide)) dX12_bringBack_53 (fun H locs hM => ?_)
    obtain ⟨I6, ev, hf⟩ := m_bndE hf
    replace hM := m_hI hM ev
    clear ev
    refine lv_aload_n hx hb dX12_bringBack_56 rfl (lv_at hl 0 rfl) ?_
    refine lv_aload_n hx hb dX12_bringBack_57 rfl (lv_at hl 0 rfl) ?_
    refine m_get (v := .ref (h 31)) X hw_bringBack hM 31 (by decide) fl_bringBack_31 rfl dX12_bringBack_58 ?_
    refine lv_iconst (v := (3 : Int32)) hx hb dX12_bringBack_61 (by decide) ?_
    obtain ⟨cd, hf⟩ := m_chkE hf
    refine m_iald X hM 31 22 5 rfl cd dX12_bringBack_62 ?_
    clear cd
    obtain ⟨v7, ev, hf⟩ := m_bndE hf
    refine m_top ev ?_
    clear ev
    refine m_put X hw_bringBack hM 28 (by decide) fl_bringBack_28 mi_28 rfl (tyX12_ok 28 (by decide)) dX12_bringBack_63 (fun H locs hM => ?_)
    obtain ⟨I8, ev, hf⟩ := m_bndE hf
    replace hM := m_hI hM ev
    clear ev
    refine lv_aload_n hx hb dX12_bringBack_66 rfl (lv_at hl 0 rfl) ?_
    refine lv_aload_n hx hb dX12_bringBack_67 rfl (lv_at hl 0 rfl) ?_
    refine m_get (v := .ref (h 31)) X hw_bringBack hM 31 (by decide) fl_bringBack_31 rfl dX12_bringBack_68 ?_
    refine lv_iconst (v := (4 : Int32)) hx hb dX12_bringBack_71 (by decide) ?_
    obtain ⟨cd, hf⟩ := m_chkE hf
    refine m_iald X hM 31 22 5 rfl cd dX12_bringBack_72 ?_
    clear cd
    obtain ⟨v9, ev, hf⟩ := m_bndE hf
    refine m_top ev ?_
    clear ev
    refine m_put X hw_bringBack hM 29 (by decide) fl_bringBack_29 mi_29 rfl (tyX12_ok 29 (by decide)) dX12_bringBack_73 (fun H locs hM => ?_)
    obtain ⟨I10, ev, hf⟩ := m_bndE hf
    replace hM := m_hI hM ev
    clear ev
    cases hf
    exact hret H locs _ ls hM dX12_bringBack_76
  · replace hf := m_ifF hf cc1
    refine lv_aload_n hx hb dX12_bringBack_8 rfl (lv_at hl 0 rfl) ?_
    refine m_get (v := .ref (h 24)) X hw_bringBack hM 24 (by decide) fl_bringBack_24 rfl dX12_bringBack_9 ?_
    refine lv_iload_n hx hb dX12_bringBack_12 rfl (lv_at hl 1 rfl) ?_
    refine lv_aload_n hx hb dX12_bringBack_13 rfl (lv_at hl 0 rfl) ?_
    refine m_get (v := .ref (h 30)) X hw_bringBack hM 30 (by decide) fl_bringBack_30 rfl dX12_bringBack_14 ?_
    refine lv_iload_n hx hb dX12_bringBack_17 rfl (lv_at hl 1 rfl) ?_
    obtain ⟨cd, hf⟩ := m_chkE hf
    refine m_iald X hM 30 21 64 rfl cd dX12_bringBack_18 ?_
    clear cd
    obtain ⟨v11, ev, hf⟩ := m_bndE hf
    refine m_top ev ?_
    clear ev
    obtain ⟨cd, hf⟩ := m_chkE hf
    refine m_iast X hM 24 20 64 rfl ma_24 cd dX12_bringBack_19 (fun H locs hM => ?_)
    clear cd
    obtain ⟨A12, ev, hf⟩ := m_bndE hf
    replace hM := m_hA hM ev
    clear ev
    obtain ⟨v13, ev, hf⟩ := m_bndE hf
    refine lv_iinc (v := v13) (lv' := [(1, .int v13), (0, .ref (h 0))]) hx hb dX12_bringBack_20 hl (k := 1) rfl (by rw [ev]; rfl) (by decide) rfl (fun ls hl => ?_)
    clear ev
    refine lv_goto (tgt := 2) hx hb dX12_bringBack_23 (by decide) ?_
    exact hself2 _ _ _ _ _ _ hf hM (lv_sub hl [1, 0] rfl)
noncomputable def f_bringBack_2 : Nat → Int32 → (Nat → Int32) → (Nat → Nat → Int32) → Option (Int32 × MS)
  | 0 => fun _ _ _ => none
  | n + 1 => f_bringBack_2s (f_bringBack_2 n)
theorem w_bringBack_2 {p : Program} {l : Launch} {e : Env} {s : State} {m : MethodId} {args : Array Value} {below : List Frame} {meth : Method} {c : Code} {Q : State → Prop} {D : va_G} {cy ci : ClassId} {h : Nat → Nat} {A0 : Nat → Prop} {o : Int32 × MS} (X : CallFix p m c cX12_bringBack 2 s args wsX12_bringBack RX12) (hret : mRv p l e ({ frames := 0, cells := 0, slots := 0, locals := 0 } : Room) s m args below meth c Q cX12_bringBack D cy ci h A0 o) (n : Nat) : ∀ (x1 : Int32) (I : Nat → Int32) (A : Nat → Nat → Int32) (H : Heap) (locs : List Loc) (ls : Array Slot), f_bringBack_2 n x1 I A = some o → mH D cy ci h A0 s H locs I A → lv_has ls 2 [(0, .ref (h 0)), (1, .int x1)] → W p l e ({ frames := 0, cells := 0, slots := 0, locals := 0 } : Room) s m args below meth c H locs 0 0 Q (F0 m 2 ls []) := by
  induction n with
  | zero => intro x1 I A H locs ls hf; cases hf
  | succ n ih => intro x1 I A H locs ls hf hM hl; exact ws_bringBack_2 X hret (self2 := f_bringBack_2 n) ih hf hM hl
noncomputable def f_bringBack_0 (I : Nat → Int32) (A : Nat → Nat → Int32) : Option (Int32 × MS) :=
  f_bringBack_2 mFuel (0 : Int32) I A

set_option maxRecDepth 100000 in
set_option maxHeartbeats 4000000 in
theorem w_bringBack_0 {p : Program} {l : Launch} {e : Env} {s : State} {m : MethodId} {args : Array Value} {below : List Frame} {meth : Method} {c : Code} {Q : State → Prop} {D : va_G} {cy ci : ClassId} {h : Nat → Nat} {A0 : Nat → Prop} {o : Int32 × MS} (X : CallFix p m c cX12_bringBack 2 s args wsX12_bringBack RX12) (hret : mRv p l e ({ frames := 0, cells := 0, slots := 0, locals := 0 } : Room) s m args below meth c Q cX12_bringBack D cy ci h A0 o) {I : Nat → Int32} {A : Nat → Nat → Int32} {H : Heap} {locs : List Loc} {ls : Array Slot} (hf : f_bringBack_0  I A = some o) (hM : mH D cy ci h A0 s H locs I A) (hl : lv_has ls 2 [(0, .ref (h 0))]) : W p l e ({ frames := 0, cells := 0, slots := 0, locals := 0 } : Room) s m args below meth c H locs 0 0 Q (F0 m 0 ls []) := by
  obtain ⟨hx, hb, hml, hown, hts⟩ := id X
  unfold f_bringBack_0 at hf
  refine lv_iconst (v := (0 : Int32)) hx hb dX12_bringBack_0 (by decide) ?_
  refine lv_istore_n (lv' := [(1, .int (0 : Int32)), (0, .ref (h 0))]) hx hb dX12_bringBack_1 rfl hl (by decide) rfl (fun ls hl => ?_)
  exact w_bringBack_2 X hret _ _ _ _ _ _ _ hf hM (lv_sub hl [1, 0] rfl)
noncomputable def f0_bringBack (I : Nat → Int32) (A : Nat → Nat → Int32) : Option (Int32 × MS) := f_bringBack_0  I A
theorem c0_bringBack {l : Launch} {D : va_G} {cy ci : ClassId} {h : Nat → Nat} {I : Nat → Int32} {A : Nat → Nat → Int32} {o : Int32 × MS} (hf : f0_bringBack  I A = some o) : mMv l yX12_bringBack wsX12_bringBack ({ frames := 0, cells := 0, slots := 0, locals := 0 } : Room) [.ref (h 0)] D cy ci h I A o :=
  m_entryV (cc := cX12_bringBack) (maxL := 2) (by decide) rfl rfl (Nat.le_of_ble_eq_true rfl) (fun p e s m args below meth c A0 Q H locs ls X hret hM hl => w_bringBack_0 X hret hf hM (lv_sub hl [0] rfl))
end
section
theorem fr_bringBack_2s {o : Int32 × MS} {self2 : Int32 → (Nat → Int32) → (Nat → Nat → Int32) → Option (Int32 × MS)} {x1 : Int32} {I : Nat → Int32} {A : Nat → Nat → Int32} (hself2 : ∀ (z0 : Int32) (I : Nat → Int32) (A : Nat → Nat → Int32), self2 z0 I A = some o → FrS [25, 26, 27, 28, 29] [24] I A o.2.1 o.2.2) (hf : f_bringBack_2s self2 x1 I A = some o) : FrS [25, 26, 27, 28, 29] [24] I A o.2.1 o.2.2 := by
  have hR : FrS [25, 26, 27, 28, 29] [24] I A I A := frs_0
  unfold f_bringBack_2s at hf
  rcases m_ifE hf with ⟨-, hf⟩ | ⟨-, hf⟩
  ·
    obtain ⟨-, hf⟩ := m_chkE hf
    obtain ⟨v1, ev, hf⟩ := m_bndE hf
    clear ev
    obtain ⟨I2, ev, hf⟩ := m_bndE hf
    replace hR := frs_I hR (by decide) ev
    clear ev
    obtain ⟨-, hf⟩ := m_chkE hf
    obtain ⟨v3, ev, hf⟩ := m_bndE hf
    clear ev
    obtain ⟨I4, ev, hf⟩ := m_bndE hf
    replace hR := frs_I hR (by decide) ev
    clear ev
    obtain ⟨-, hf⟩ := m_chkE hf
    obtain ⟨v5, ev, hf⟩ := m_bndE hf
    clear ev
    obtain ⟨I6, ev, hf⟩ := m_bndE hf
    replace hR := frs_I hR (by decide) ev
    clear ev
    obtain ⟨-, hf⟩ := m_chkE hf
    obtain ⟨v7, ev, hf⟩ := m_bndE hf
    clear ev
    obtain ⟨I8, ev, hf⟩ := m_bndE hf
    replace hR := frs_I hR (by decide) ev
    clear ev
    obtain ⟨-, hf⟩ := m_chkE hf
    obtain ⟨v9, ev, hf⟩ := m_bndE hf
    clear ev
    obtain ⟨I10, ev, hf⟩ := m_bndE hf
    replace hR := frs_I hR (by decide) ev
    clear ev
    cases hf
    exact hR
  ·
    obtain ⟨-, hf⟩ := m_chkE hf
    obtain ⟨v11, ev, hf⟩ := m_bndE hf
    clear ev
    obtain ⟨-, hf⟩ := m_chkE hf
    obtain ⟨A12, ev, hf⟩ := m_bndE hf
    replace hR := frs_A hR (by decide) ev
    clear ev
    obtain ⟨v13, ev, hf⟩ := m_bndE hf
    clear ev
    exact frs_t hR (hself2 _ _ _ hf) (fun _ h => h) (fun _ h => h)
theorem fr_bringBack_2 {o : Int32 × MS}   (n : Nat) : ∀ (y0 : Int32) (I : Nat → Int32) (A : Nat → Nat → Int32), f_bringBack_2  n y0 I A = some o → FrS [25, 26, 27, 28, 29] [24] I A o.2.1 o.2.2 := by
  induction n with
  | zero => intro y0 I A hf; cases hf
  | succ n ih => intro y0 I A hf; exact fr_bringBack_2s  ih hf
theorem fr_bringBack_0 {o : Int32 × MS} {I : Nat → Int32} {A : Nat → Nat → Int32}  (hf : f_bringBack_0 I A = some o) : FrS [25, 26, 27, 28, 29] [24] I A o.2.1 o.2.2 := by
  have hR : FrS [25, 26, 27, 28, 29] [24] I A I A := frs_0
  unfold f_bringBack_0 at hf
  exact frs_t hR (fr_bringBack_2  _ _ _ _ hf) (fun _ h => h) (fun _ h => h)
theorem back_l {o : Int32 × MS} (n : Nat) : ∀ (j : Nat) (I : Nat → Int32) (A : Nat → Nat → Int32), j ≤ 64 → f_bringBack_2 n (nI j) I A = some o → (∀ i, i < j → A 24 i = A 30 i) → (∀ i, i < 64 → o.2.2 24 i = A 30 i) ∧ o.2.1 25 = A 31 0 ∧ o.2.1 26 = A 31 1 ∧ o.2.1 27 = A 31 2 ∧ o.2.1 28 = A 31 3 ∧ o.2.1 29 = A 31 4 := by
  induction n with
  | zero => intro j I A _ hf; cases hf
  | succ n ih =>
    intro j I A hj hf hinv
    replace hf : f_bringBack_2s (f_bringBack_2 n) (nI j) I A = some o := hf
    unfold f_bringBack_2s at hf
    rcases m_ifE hf with ⟨hc, hf⟩ | ⟨hc, hf⟩
    · have hj4 : j = 64 := Classical.byContradiction (fun h => nI_ge (a := j) (b := 64) (by omega) (by decide) hc)
      obtain ⟨-, hf⟩ := m_chkE hf
      obtain ⟨v1, e1, hf⟩ := m_bndE hf
      obtain ⟨I2, e2, hf⟩ := m_bndE hf
      obtain ⟨-, hf⟩ := m_chkE hf
      obtain ⟨v3, e3, hf⟩ := m_bndE hf
      obtain ⟨I4, e4, hf⟩ := m_bndE hf
      obtain ⟨-, hf⟩ := m_chkE hf
      obtain ⟨v5, e5, hf⟩ := m_bndE hf
      obtain ⟨I6, e6, hf⟩ := m_bndE hf
      obtain ⟨-, hf⟩ := m_chkE hf
      obtain ⟨v7, e7, hf⟩ := m_bndE hf
      obtain ⟨I8, e8, hf⟩ := m_bndE hf
      obtain ⟨-, hf⟩ := m_chkE hf
      obtain ⟨v9, e9, hf⟩ := m_bndE hf
      obtain ⟨I10, e10, hf⟩ := m_bndE hf
      cases hf
      subst e1 e2 e3 e4 e5 e6 e7 e8 e9 e10
      exact ⟨fun i hi => hinv i (by omega), rfl, rfl, rfl, rfl, rfl⟩
    · have hj4 : j < 64 := Classical.byContradiction (fun h => hc (nI_le (a := 64) (b := j) (by omega) (by omega)))
      obtain ⟨-, hf⟩ := m_chkE hf
      obtain ⟨v6, e6, hf⟩ := m_bndE hf
      obtain ⟨-, hf⟩ := m_chkE hf
      obtain ⟨A7, e7, hf⟩ := m_bndE hf
      obtain ⟨v8, e8, hf⟩ := m_bndE hf
      rw [nI_clamp (by omega : j < 2 ^ 31)] at e6 e7
      rw [e8, ← nI_succ] at hf
      have h30 : A7 30 = A 30 := by rw [e7]; exact va_up_ne _ _ (by decide)
      have h31 : A7 31 = A 31 := by rw [e7]; exact va_up_ne _ _ (by decide)
      have h24 : A7 24 = upd (A 24) j v6 := by rw [e7]; exact va_up_self _ _ _
      have h1 := ih (j + 1) I A7 (by omega) hf (fun i hi => by
        rw [h24, h30]
        by_cases hij : i = j
        · rw [hij, upd_self, e6]
        · rw [upd_ne hij]; exact hinv i (by omega))
      rw [h30, h31] at h1
      exact h1
theorem bringBack_t (n : Nat) : ∀ (j : Nat) (I : Nat → Int32) (A : Nat → Nat → Int32), j ≤ 64 → 64 < j + n → ∃ o : Int32 × MS, f_bringBack_2 n (nI j) I A = some o := by
  induction n with
  | zero => intro j I A h1 h2; omega
  | succ n ih =>
    intro j I A hj hn
    show ∃ o : Int32 × MS, f_bringBack_2s (f_bringBack_2 n) (nI j) I A = some o
    unfold f_bringBack_2s
    by_cases hc : (64 : Int32) ≤ nI j
    · rw [m_ifP hc, m_chkP (by decide), m_bnd, m_bnd, m_chkP (by decide), m_bnd, m_bnd, m_chkP (by decide), m_bnd, m_bnd, m_chkP (by decide), m_bnd, m_bnd, m_chkP (by decide), m_bnd, m_bnd]
      exact ⟨_, rfl⟩
    · have hj4 : j < 64 := Classical.byContradiction (fun h => hc (nI_le (a := 64) (b := j) (by omega) (by omega)))
      have hin : ¬ (nI j < 0 ∨ 64 ≤ (nI j).toNatClampNeg) := nI_in hj4 (by decide)
      rw [m_ifN hc, m_chkP hin, m_bnd, m_chkP hin, m_bnd, m_bnd, ← nI_succ]
      exact ih (j + 1) I _ (by omega) (by omega)
noncomputable def nB (I : Nat → Int32) (A : Nat → Nat → Int32) : Nat → Int32 := upd (upd (upd (upd (upd I 25 (A 31 0)) 26 (A 31 1)) 27 (A 31 2)) 28 (A 31 3)) 29 (A 31 4)
theorem nB_o {I : Nat → Int32} {A : Nat → Nat → Int32} {k : Nat} (h : k ∉ [25, 26, 27, 28, 29]) : nB I A k = I k := by
  have h1 : k ≠ 25 ∧ k ≠ 26 ∧ k ≠ 27 ∧ k ≠ 28 ∧ k ≠ 29 := by simpa using h
  unfold nB
  rw [upd_ne h1.2.2.2.2, upd_ne h1.2.2.2.1, upd_ne h1.2.2.1, upd_ne h1.2.1, upd_ne h1.1]
/-- bringBack's answer -/
noncomputable def f_bringBack (I : Nat → Int32) (A : Nat → Nat → Int32) : Option (Int32 × MS) := some (0, (nB I A, va_up A 24 (A 30)))
theorem c_bringBack {l : Launch} {D : va_G} {cy ci : ClassId} {h : Nat → Nat} {I : Nat → Int32} {A : Nat → Nat → Int32} {o : Int32 × MS} (hf : f_bringBack  I A = some o) : mMv l yX12_bringBack wsX12_bringBack ({ frames := 0, cells := 0, slots := 0, locals := 0 } : Room) [.ref (h 0)] D cy ci h I A o := by
  obtain ⟨o0, h0⟩ := bringBack_t mFuel 0 I A (by decide) (by decide)
  cases hf
  have a := fr_bringBack_0 h0
  have b := back_l mFuel 0 I A (by decide) h0 (fun i hi => absurd hi (Nat.not_lt_zero _))
  refine mMv_ren (c0_bringBack h0) (fun k _ => ?_) (fun q hq i hi => ?_)
  · show nB I A k = o0.2.1 k
    by_cases hk : k ∈ [25, 26, 27, 28, 29]
    · rcases List.mem_cons.mp hk with rfl | hk
      · exact b.2.1.symm
      rcases List.mem_cons.mp hk with rfl | hk
      · exact b.2.2.1.symm
      rcases List.mem_cons.mp hk with rfl | hk
      · exact b.2.2.2.1.symm
      rcases List.mem_cons.mp hk with rfl | hk
      · exact b.2.2.2.2.1.symm
      rcases List.mem_cons.mp hk with rfl | hk
      · exact b.2.2.2.2.2.symm
      · cases hk
    · rw [nB_o hk, a.1 k hk]
  · show va_up A 24 (A 30) q.1 i = o0.2.2 q.1 i
    by_cases h24 : q.1 = 24
    · have hi5 : i < 64 := by rw [sz_24 q hq h24] at hi; exact hi
      rw [h24, va_up_self]
      exact (b.1 i hi5).symm
    · rw [va_up_ne _ _ h24, a.2 q.1 (by simp [h24])]
end
section
theorem hw_isSafe : ∀ w ∈ wsX120, w ∈ wsX12_isSafe := by decide +kernel
theorem fl_isSafe_25 : Cond.fieldLink RX12 121 "MoveTextsModel" "side" "I" ∈ wsX12_isSafe := by decide +kernel
theorem hd_isSafe : yX12_isSafe.cls = RX12 ∧ yX12_isSafe.cls ≠ "java/lang/invoke/MethodHandle" ∧ yX12_isSafe.cls ≠ "java/lang/invoke/VarHandle" ∧ (parseMethodDescriptor yX12_isSafe.desc).map (fun d => d.parameters.length) = some 1 := by decide +kernel
noncomputable def f_isSafe_27 (t0 : Int32) (I : Nat → Int32) (A : Nat → Nat → Int32) : Option (Int32 × MS) :=
  m_cl (f_bringBack  I A) (fun r1 Ic1 Ac1 =>
  m_chk (vp_nar .boolean t0 = t0) (some (t0, (Ic1, Ac1))))

set_option maxRecDepth 100000 in
set_option maxHeartbeats 4000000 in
theorem w_isSafe_27 {p : Program} {l : Launch} {e : Env} {s : State} {m : MethodId} {args : Array Value} {below : List Frame} {meth : Method} {c : Code} {Q : State → Prop} {D : va_G} {cy ci : ClassId} {h : Nat → Nat} {A0 : Nat → Prop} {o : Int32 × MS} (X : CallFix p m c cX12_isSafe 3 s args wsX12_isSafe RX12) (hret : mRi p l e ({ frames := 4, cells := 0, slots := 0, locals := 98 } : Room) s m args below meth c Q cX12_isSafe D cy ci h A0 .boolean o) {t0 : Int32} {I : Nat → Int32} {A : Nat → Nat → Int32} {H : Heap} {locs : List Loc} {ls : Array Slot} (hf : f_isSafe_27 t0 I A = some o) (hM : mH D cy ci h A0 s H locs I A) (hl : lv_has ls 3 [(0, .ref (h 0))]) : W p l e ({ frames := 4, cells := 0, slots := 0, locals := 98 } : Room) s m args below meth c H locs 0 0 Q (F0 m 27 ls [.int t0]) := by
  obtain ⟨hx, hb, hml, hown, hts⟩ := id X
  unfold f_isSafe_27 at hf
  refine lv_istore_n (lv' := [(2, .int t0), (0, .ref (h 0))]) hx hb dX12_isSafe_27 rfl hl (by decide) rfl (fun ls hl => ?_)
  refine lv_aload_n hx hb dX12_isSafe_28 rfl (lv_at hl 1 rfl) ?_
  obtain ⟨o1, ho, hf⟩ := m_clE hf
  refine m_callVv X hM (c_bringBack ho) gX12_isSafe_X12_bringBack rfl ⟨rfl, rfl⟩ hd_bringBack ⟨Nat.le_of_ble_eq_true rfl, Nat.le_of_ble_eq_true rfl⟩ rfl hl.1 rfl (Nat.le_of_ble_eq_true rfl) dX12_isSafe_29 (fun H locs hM => ?_)
  clear ho
  refine lv_iload_n hx hb dX12_isSafe_32 rfl (lv_at hl 0 rfl) ?_
  obtain ⟨cd, hf⟩ := m_chkE hf
  cases hf
  exact hret H locs _ ls hM (m_nb cd) dX12_isSafe_33
noncomputable def f_isSafe_0 (x1 : Int32) (I : Nat → Int32) (A : Nat → Nat → Int32) : Option (Int32 × MS) :=
  m_cl (f_keep  I A) (fun r1 Ic1 Ac1 =>
  m_cl (f_make x1 Ic1 Ac1) (fun r2 Ic2 Ac2 =>
  m_bnd ((1 : Int32) - (Ic2 25)) (fun v3 =>
  m_cl (f_isInCheck v3 Ic2 Ac2) (fun r4 Ic4 Ac4 =>
  m_if (r4 = 0) (
  f_isSafe_27 (1 : Int32) Ic4 Ac4
  ) (
  f_isSafe_27 (0 : Int32) Ic4 Ac4
  )))))

set_option maxRecDepth 100000 in
set_option maxHeartbeats 4000000 in
theorem w_isSafe_0 {p : Program} {l : Launch} {e : Env} {s : State} {m : MethodId} {args : Array Value} {below : List Frame} {meth : Method} {c : Code} {Q : State → Prop} {D : va_G} {cy ci : ClassId} {h : Nat → Nat} {A0 : Nat → Prop} {o : Int32 × MS} (X : CallFix p m c cX12_isSafe 3 s args wsX12_isSafe RX12) (hret : mRi p l e ({ frames := 4, cells := 0, slots := 0, locals := 98 } : Room) s m args below meth c Q cX12_isSafe D cy ci h A0 .boolean o) {x1 : Int32} {I : Nat → Int32} {A : Nat → Nat → Int32} {H : Heap} {locs : List Loc} {ls : Array Slot} (hf : f_isSafe_0 x1 I A = some o) (hM : mH D cy ci h A0 s H locs I A) (hl : lv_has ls 3 [(0, .ref (h 0)), (1, .int x1)]) : W p l e ({ frames := 4, cells := 0, slots := 0, locals := 98 } : Room) s m args below meth c H locs 0 0 Q (F0 m 0 ls []) := by
  obtain ⟨hx, hb, hml, hown, hts⟩ := id X
  unfold f_isSafe_0 at hf
  refine lv_aload_n hx hb dX12_isSafe_0 rfl (lv_at hl 0 rfl) ?_
  obtain ⟨o1, ho, hf⟩ := m_clE hf
  refine m_callVv X hM (c_keep ho) gX12_isSafe_X12_keep rfl ⟨rfl, rfl⟩ hd_keep ⟨Nat.le_of_ble_eq_true rfl, Nat.le_of_ble_eq_true rfl⟩ rfl hl.1 rfl (Nat.le_of_ble_eq_true rfl) dX12_isSafe_1 (fun H locs hM => ?_)
  clear ho
  refine lv_aload_n hx hb dX12_isSafe_4 rfl (lv_at hl 0 rfl) ?_
  refine lv_iload_n hx hb dX12_isSafe_5 rfl (lv_at hl 1 rfl) ?_
  obtain ⟨o2, ho, hf⟩ := m_clE hf
  refine m_callVv X hM (c_make ho) gX12_isSafe_X12_make rfl ⟨rfl, rfl⟩ hd_make ⟨Nat.le_of_ble_eq_true rfl, Nat.le_of_ble_eq_true rfl⟩ rfl hl.1 rfl (Nat.le_of_ble_eq_true rfl) dX12_isSafe_6 (fun H locs hM => ?_)
  clear ho
  refine lv_aload_n hx hb dX12_isSafe_9 rfl (lv_at hl 0 rfl) ?_
  refine lv_iconst (v := (1 : Int32)) hx hb dX12_isSafe_10 (by decide) ?_
  refine lv_aload_n hx hb dX12_isSafe_11 rfl (lv_at hl 0 rfl) ?_
  refine m_get (v := .int (o2.2.1 25)) X hw_isSafe hM 25 (by decide) fl_isSafe_25 rfl dX12_isSafe_12 ?_
  refine lv_isub hx hb dX12_isSafe_15 ?_
  obtain ⟨v3, ev, hf⟩ := m_bndE hf
  refine m_top ev ?_
  clear ev
  obtain ⟨o4, ho, hf⟩ := m_clE hf
  refine m_callVi X hM (c_isInCheck ho) gX12_isSafe_X12_isInCheck rfl ⟨rfl, rfl⟩ hd_isInCheck ⟨Nat.le_of_ble_eq_true rfl, Nat.le_of_ble_eq_true rfl⟩ rfl hl.1 rfl (Nat.le_of_ble_eq_true rfl) dX12_isSafe_16 (fun H locs hM => ?_)
  clear ho
  refine lv_if_ne (tgt := 26) hx hb dX12_isSafe_19 (by decide) (fun cc1 => ?_) (fun cc1 => ?_)
  · replace hf := m_ifF hf cc1
    refine lv_iconst (v := (0 : Int32)) hx hb dX12_isSafe_26 (by decide) ?_
    exact w_isSafe_27 X hret hf hM (lv_sub hl [0] rfl)
  · replace hf := m_ifT hf cc1
    refine lv_iconst (v := (1 : Int32)) hx hb dX12_isSafe_22 (by decide) ?_
    refine lv_goto (tgt := 27) hx hb dX12_isSafe_23 (by decide) ?_
    exact w_isSafe_27 X hret hf hM (lv_sub hl [0] rfl)
noncomputable def f0_isSafe (x1 : Int32) (I : Nat → Int32) (A : Nat → Nat → Int32) : Option (Int32 × MS) := f_isSafe_0 x1 I A
theorem c0_isSafe {l : Launch} {D : va_G} {cy ci : ClassId} {h : Nat → Nat} {x1 : Int32} {I : Nat → Int32} {A : Nat → Nat → Int32} {o : Int32 × MS} (hf : f0_isSafe x1 I A = some o) : mMi l yX12_isSafe wsX12_isSafe ({ frames := 4, cells := 0, slots := 0, locals := 98 } : Room) [.ref (h 0), .int x1] D cy ci h I A o :=
  m_entryI (cc := cX12_isSafe) (maxL := 3) (by decide) rfl rfl (Nat.le_of_ble_eq_true rfl) (fun p e s m args below meth c A0 Q H locs ls X hret hM hl => w_isSafe_0 X hret hf hM (lv_sub hl [0, 1] rfl))
end
