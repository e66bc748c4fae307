def mFuel : Nat := 200000
abbrev MS : Type := (Nat → Int32) × (Nat → Nat → Int32)
abbrev mF (h : Nat → Nat) (I : Nat → Int32) : List Value := [.int (I 0), .int (I 1), .ref (h 2), .int (I 3), .ref (h 4), .int (I 5), .int (I 6), .ref (h 7), .ref (h 8), .ref (h 9), .ref (h 10), .ref (h 11), .ref (h 12), .ref (h 13), .ref (h 14), .ref (h 15), .ref (h 16), .ref (h 17), .ref (h 18), .ref (h 19), .ref (h 20), .ref (h 21), .ref (h 22), .ref (h 23), .ref (h 24), .int (I 25), .int (I 26), .int (I 27), .int (I 28), .int (I 29), .ref (h 30), .ref (h 31), .ref (h 32), .int (I 33), .ref (h 34), .ref (h 35), .int (I 36), .int (I 37), .int (I 38), .int (I 39)]
abbrev mW (cy ci : ClassId) (h : Nat → Nat) (I : Nat → Int32) (A : Nat → Nat → Int32) : va_W := [(h 0, .inr (12, mF h I)), (h 2, .inl (cy, 2000, .inl (A 2))), (h 4, .inl (cy, 80000, .inl (A 4))), (h 7, .inl (ci, 2, .inl (A 7))), (h 8, .inl (ci, 602, .inl (A 8))), (h 9, .inl (ci, 602, .inl (A 9))), (h 10, .inl (ci, 602, .inl (A 10))), (h 11, .inl (ci, 602, .inl (A 11))), (h 12, .inl (ci, 602, .inl (A 12))), (h 13, .inl (ci, 2408, .inl (A 13))), (h 14, .inl (ci, 602, .inl (A 14))), (h 15, .inl (cy, 120400, .inl (A 15))), (h 16, .inl (ci, 128, .inl (A 16))), (h 17, .inl (ci, 10, .inl (A 17))), (h 18, .inl (ci, 2, .inl (A 18))), (h 19, .inl (ci, 16, .inl (A 19))), (h 20, .inl (cy, 192, .inl (A 20))), (h 21, .inl (ci, 16, .inl (A 21))), (h 22, .inl (cy, 1536, .inl (A 22))), (h 23, .inl (ci, 2, .inl (A 23))), (h 24, .inl (ci, 64, .inl (A 24))), (h 30, .inl (ci, 64, .inl (A 30))), (h 31, .inl (ci, 5, .inl (A 31))), (h 32, .inl (ci, 2048, .inl (A 32))), (h 34, .inl (ci, 301, .inl (A 34))), (h 35, .inl (cy, 16, .inl (A 35)))]
theorem mT1 : ∀ k, k < 40 → (TX12 k).1 = "MoveTextsModel" := by decide +kernel
theorem mD_fst {A : Nat → Prop} {w1 w2 : va_W} (hm : w1.map Prod.fst = w2.map Prod.fst) (hD : va_D A w1) : va_D A w2 := by
  have key : ∀ (k : Nat) (q : Nat × va_E), w2[k]? = some q → ∃ q0 : Nat × va_E, w1[k]? = some q0 ∧ q0.1 = q.1 := by
    intro k q hq
    have h2 : (w2.map Prod.fst)[k]? = some q.1 := by rw [List.getElem?_map, hq]; rfl
    rw [← hm, List.getElem?_map] at h2
    cases h3 : w1[k]? with
    | none => rw [h3] at h2; cases h2
    | some q0 => rw [h3] at h2; exact ⟨q0, rfl, Option.some.inj h2⟩
  refine ⟨fun i j x y hi hj hxy => ?_, fun k q hk => ?_⟩
  · obtain ⟨a, h1, h2⟩ := key i x hi
    obtain ⟨b, h3, h4⟩ := key j y hj
    exact hD.1 i j a b h1 h3 (by rw [h2, h4]; exact hxy)
  · obtain ⟨a, h1, h2⟩ := key k q hk
    rw [← h2]
    exact hD.2 k a h1
theorem mD_any {A0 : Nat → Prop} {cy ci : ClassId} {h : Nat → Nat} {I I' : Nat → Int32} {A A' : Nat → Nat → Int32} (hD : va_D A0 (mW cy ci h I A)) : va_D A0 (mW cy ci h I' A') := mD_fst (w1 := mW cy ci h I A) rfl hD
def mH (D : va_G) (cy ci : ClassId) (h : Nat → Nat) (A0 : Nat → Prop) (s : State) (H : Heap) (locs : List Loc) (I : Nat → Int32) (A : Nat → Nat → Int32) : Prop :=
  va_P D vwCl (mW cy ci h I A) H ∧ va_D A0 (mW cy ci h I A) ∧ va_S A0 s.heap H locs ∧ va_K D vwCl [(cy, .char), (ci, .int)] s ∧ ∀ q : Nat, s.heap.size ≤ q → A0 q
-- pure forms: a value named, a test that must hold, a call, a branch
def m_bnd {α β : Type} (x : α) (k : α → Option β) : Option β := k x
def m_chk {β : Type} (c : Prop) [Decidable c] (k : Option β) : Option β := if c then k else none
def m_if {β : Type} (c : Prop) [Decidable c] (a b : Option β) : Option β := if c then a else b
def m_cal {α β : Type} (o : Option α) (k : α → Option β) : Option β := match o with
  | some x => k x
  | none => none
theorem m_bndE {α β : Type} {x : α} {k : α → Option β} {r : β} (hf : m_bnd x k = some r) : ∃ y : α, y = x ∧ k y = some r := ⟨x, rfl, hf⟩
theorem m_chkE {β : Type} {c : Prop} [Decidable c] {k : Option β} {r : β} (hf : m_chk c k = some r) : c ∧ k = some r := by
  unfold m_chk at hf
  by_cases hc : c
  · rw [if_pos hc] at hf; exact ⟨hc, hf⟩
  · rw [if_neg hc] at hf; cases hf
theorem m_ifT {β : Type} {c : Prop} [Decidable c] {a b : Option β} {r : β} (hf : m_if c a b = some r) (hc : c) : a = some r := by
  unfold m_if at hf; rw [if_pos hc] at hf; exact hf
theorem m_ifF {β : Type} {c : Prop} [Decidable c] {a b : Option β} {r : β} (hf : m_if c a b = some r) (hc : ¬ c) : b = some r := by
  unfold m_if at hf; rw [if_neg hc] at hf; exact hf
theorem m_calE {α β : Type} {o : Option α} {k : α → Option β} {r : β} (hf : m_cal o k = some r) : ∃ y : α, o = some y ∧ k y = some r := by
  cases o with
  | none => cases hf
  | some y => exact ⟨y, rfl, hf⟩
def mB (D : va_G) (cy ci : ClassId) (h : Nat → Nat) (I : Nat → Int32) (A : Nat → Nat → Int32) (sz : Nat) : State → Prop := fun U =>
  U.heap.size = sz ∧ va_P D vwCl (mW cy ci h I A) U.heap ∧ va_K D vwCl [(cy, .char), (ci, .int)] U ∧ va_D (fun _ => True) (mW cy ci h I A)
/-- a method of the reference that answers an int (a boolean, a char): from (I, A) it answers r and leaves (I', A') -/
def mMi (l : Launch) (y : MethodName) (ws : List Cond) (rm : Room) (av : List Value) (D : va_G) (cy ci : ClassId) (h : Nat → Nat) (I : Nat → Int32) (A : Nat → Nat → Int32) (o : Int32 × MS) : Prop :=
  ∀ sz : Nat, Met l y ws rm (va_Pc av (mB D cy ci h I A sz)) (va_Qi (fun (r' : Int32) (_ : Unit) => r' = o.1) (fun _ t => va_P D vwCl (mW cy ci h o.2.1 o.2.2) t.heap) (va_A (mW cy ci h I A) sz)) 0 0 (va_A (mW cy ci h I A) sz)
/-- one that answers nothing -/
def mMv (l : Launch) (y : MethodName) (ws : List Cond) (rm : Room) (av : List Value) (D : va_G) (cy ci : ClassId) (h : Nat → Nat) (I : Nat → Int32) (A : Nat → Nat → Int32) (o : Int32 × MS) : Prop :=
  ∀ sz : Nat, Met l y ws rm (va_Pc av (mB D cy ci h I A sz)) (va_Qv (fun (_ : Unit) => True) (fun _ t => va_P D vwCl (mW cy ci h o.2.1 o.2.2) t.heap) (va_A (mW cy ci h I A) sz)) 0 0 (va_A (mW cy ci h I A) sz)
def mRi (p : Program) (l : Launch) (e : Env) (R : Room) (s : State) (m : MethodId) (args : Array Value) (below : List Frame) (meth : Method) (c : Code) (Q : State → Prop) (cc : ByteArray) (D : va_G) (cy ci : ClassId) (h : Nat → Nat) (A0 : Nat → Prop) (ty : FieldType) (o : Int32 × MS) : Prop :=
  ∀ (H : Heap) (locs : List Loc) (pc : Nat) (ls : Array Slot), mH D cy ci h A0 s H locs o.2.1 o.2.2 → narrow ty (.int o.1) = .int o.1 → decode cc pc = .ok (.ireturn, 1) → W p l e R s m args below meth c H locs 0 0 Q (F0 m pc ls [.int o.1])
def mRv (p : Program) (l : Launch) (e : Env) (R : Room) (s : State) (m : MethodId) (args : Array Value) (below : List Frame) (meth : Method) (c : Code) (Q : State → Prop) (cc : ByteArray) (D : va_G) (cy ci : ClassId) (h : Nat → Nat) (A0 : Nat → Prop) (o : Int32 × MS) : Prop :=
  ∀ (H : Heap) (locs : List Loc) (pc : Nat) (ls : Array Slot), mH D cy ci h A0 s H locs o.2.1 o.2.2 → decode cc pc = .ok (.return_, 1) → W p l e R s m args below meth c H locs 0 0 Q (F0 m pc ls [])
theorem m_nb {v : Int32} (hv : vp_nar .boolean v = v) : narrow .boolean (.int v) = .int v := by
  have h1 : narrow .boolean (.int v) = .int (vp_nar .boolean v) := rfl
  rw [h1, hv]
theorem m_nc {v : Int32} (hv : vp_nar .char v = v) : narrow .char (.int v) = .int v := by
  have h1 : narrow .char (.int v) = .int (vp_nar .char v) := rfl
  rw [h1, hv]
section ML
variable {p : Program} {l : Launch} {e : Env} {R : Room} {s : State} {m : MethodId} {args : Array Value} {below : List Frame} {meth : Method} {c : Code} {H : Heap} {locs : List Loc} {cells slots : Nat} {Q : State → Prop}
variable {cc : ByteArray} {pc nL : Nat} {ls : Array Slot} {rest : List Value} {D : va_G} {A0 : Nat → Prop} {Ts : List Cond} {cy ci : ClassId} {h : Nat → Nat} {I : Nat → Int32} {A : Nat → Nat → Int32}
theorem m_top {x y : Int32} (hy : y = x) (k : W p l e R s m args below meth c H locs cells slots Q (F0 m pc ls (.int y :: rest))) : W p l e R s m args below meth c H locs cells slots Q (F0 m pc ls (.int x :: rest)) := hy ▸ k
theorem m_topl {x y : Int64} (hy : y = x) (k : W p l e R s m args below meth c H locs cells slots Q (F0 m pc ls (.long y :: rest))) : W p l e R s m args below meth c H locs cells slots Q (F0 m pc ls (.long x :: rest)) := hy ▸ k
theorem m_hI {I' : Nat → Int32} (hM : mH D cy ci h A0 s H locs I A) (hI : I' = I) : mH D cy ci h A0 s H locs I' A := hI ▸ hM
theorem m_hA {A' : Nat → Nat → Int32} (hM : mH D cy ci h A0 s H locs I A) (hI : A' = A) : mH D cy ci h A0 s H locs I A' := hI ▸ hM
theorem m_get (X : CallFix p m c cc nL s args Ts RX12) (hw : ∀ w ∈ wsX120, w ∈ Ts) (hM : mH D cy ci h A0 s H locs I A) (k : Nat) (hk : k < 40) {index : Nat} (hl : Cond.fieldLink RX12 index "MoveTextsModel" (TX12 k).2.1 (TX12 k).2.2.1 ∈ Ts) {v : Value} (hv : (mF h I)[k]? = some v) (hdg : decode cc pc = .ok (.getfield index, 3))
    (kk : W p l e R s m args below meth c H locs cells slots Q (F0 m (pc + 3) ls (v :: rest))) : W p l e R s m args below meth c H locs cells slots Q (F0 m pc ls (.ref (h 0) :: rest)) :=
  va_get (D := D) (ci := 12) (C := RX12) (T := TX12) (N := 40) X.1 X.2.1 X.2.2.2.2 hw X.2.2.2.1 hM.2.2.2.1 hM.1 0 rfl rfl k hk (X.2.2.2.2 _ hl) (by rw [mT1 k hk]; exact fun _ h9 => h9) hv hdg kk
theorem m_put (X : CallFix p m c cc nL s args Ts RX12) (hw : ∀ w ∈ wsX120, w ∈ Ts) (hM : mH D cy ci h A0 s H locs I A) (k : Nat) (hk : k < 40) {index : Nat} (hl : Cond.fieldLink RX12 index "MoveTextsModel" (TX12 k).2.1 (TX12 k).2.2.1 ∈ Ts) {v : Int32} (hset : (mF h I).set k (.int v) = mF h (upd I k v)) (hfin : (TX12 k).2.2.2 = false) (hd : parseFieldDescriptor (TX12 k).2.2.1 = some .int) (hdg : decode cc pc = .ok (.putfield index, 3))
    (kk : ∀ (H : Heap) (locs : List Loc), mH D cy ci h A0 s H locs (upd I k v) A → W p l e R s m args below meth c H locs cells slots Q (F0 m (pc + 3) ls rest)) : W p l e R s m args below meth c H locs cells slots Q (F0 m pc ls (.int v :: .ref (h 0) :: rest)) := by
  obtain ⟨hP, hD, hS, hK, hA⟩ := hM
  refine va_put (D := D) (ci := 12) (v := .int v) (ty := .int) (C := RX12) (T := TX12) (N := 40) X.1 X.2.1 X.2.2.2.2 hw tyX12 tyX12_ok nmX12 X.2.2.2.1 hK hP hD hS 0 rfl rfl k hk (X.2.2.2.2 _ hl) (by rw [mT1 k hk]; exact fun _ h9 => h9) hfin hd rfl rfl hk hdg (fun H1 locs1 hP1 hD1 hS1 => ?_)
  rw [hset] at hP1
  exact kk H1 locs1 ⟨hP1, mD_any hD, hS1, hK, hA⟩
theorem m_iald (X : CallFix p m c cc nL s args Ts RX12) (hM : mH D cy ci h A0 s H locs I A) (j q0 n : Nat) (ha : (mW cy ci h I A)[q0]? = some (h j, .inl (ci, n, .inl (A j)))) {i : Int32} (hin : vp_in i n) (hdg : decode cc pc = .ok (.iaload, 1))
    (kk : W p l e R s m args below meth c H locs cells slots Q (F0 m (pc + 1) ls (.int (A j i.toNatClampNeg) :: rest))) : W p l e R s m args below meth c H locs cells slots Q (F0 m pc ls (.int i :: .ref (h j) :: rest)) :=
  va_iald X.1 X.2.1 hM.2.2.2.1 hM.1 q0 1 ha rfl hin hdg kk
theorem m_cald (X : CallFix p m c cc nL s args Ts RX12) (hM : mH D cy ci h A0 s H locs I A) (j q0 n : Nat) (ha : (mW cy ci h I A)[q0]? = some (h j, .inl (cy, n, .inl (A j)))) {i : Int32} (hin : vp_in i n) (hdg : decode cc pc = .ok (.caload, 1))
    (kk : W p l e R s m args below meth c H locs cells slots Q (F0 m (pc + 1) ls (.int (A j i.toNatClampNeg) :: rest))) : W p l e R s m args below meth c H locs cells slots Q (F0 m pc ls (.int i :: .ref (h j) :: rest)) :=
  va_cald X.1 X.2.1 hM.2.2.2.1 hM.1 q0 0 ha rfl hin hdg kk
theorem m_iast (X : CallFix p m c cc nL s args Ts RX12) (hM : mH D cy ci h A0 s H locs I A) (j q0 n : Nat) (ha : (mW cy ci h I A)[q0]? = some (h j, .inl (ci, n, .inl (A j)))) {i x : Int32} (hset : ∀ g : Nat → Int32, (mW cy ci h I A).set q0 (h j, .inl (ci, n, .inl g)) = mW cy ci h I (va_up A j g)) (hin : vp_in i n) (hdg : decode cc pc = .ok (.iastore, 1))
    (kk : ∀ (H : Heap) (locs : List Loc), mH D cy ci h A0 s H locs I (va_up A j (upd (A j) i.toNatClampNeg x)) → W p l e R s m args below meth c H locs cells slots Q (F0 m (pc + 1) ls rest)) : W p l e R s m args below meth c H locs cells slots Q (F0 m pc ls (.int x :: .int i :: .ref (h j) :: rest)) := by
  obtain ⟨hP, hD, hS, hK, hA⟩ := hM
  refine va_iast X.1 X.2.1 hK hP hD hS q0 1 ha rfl hin hdg (fun H1 locs1 hP1 hD1 hS1 => ?_)
  rw [hset] at hP1
  exact kk H1 locs1 ⟨hP1, mD_any hD, hS1, hK, hA⟩
theorem m_cast (X : CallFix p m c cc nL s args Ts RX12) (hM : mH D cy ci h A0 s H locs I A) (j q0 n : Nat) (ha : (mW cy ci h I A)[q0]? = some (h j, .inl (cy, n, .inl (A j)))) {i x : Int32} (hset : ∀ g : Nat → Int32, (mW cy ci h I A).set q0 (h j, .inl (cy, n, .inl g)) = mW cy ci h I (va_up A j g)) (hin : vp_in i n) (hdg : decode cc pc = .ok (.castore, 1))
    (kk : ∀ (H : Heap) (locs : List Loc), mH D cy ci h A0 s H locs I (va_up A j (upd (A j) i.toNatClampNeg (vp_nar .char x))) → W p l e R s m args below meth c H locs cells slots Q (F0 m (pc + 1) ls rest)) : W p l e R s m args below meth c H locs cells slots Q (F0 m pc ls (.int x :: .int i :: .ref (h j) :: rest)) := by
  obtain ⟨hP, hD, hS, hK, hA⟩ := hM
  refine va_cast X.1 X.2.1 hK hP hD hS q0 0 ha rfl hin hdg (fun H1 locs1 hP1 hD1 hS1 => ?_)
  rw [hset] at hP1
  exact kk H1 locs1 ⟨hP1, mD_any hD, hS1, hK, hA⟩
theorem m_tabD {x : Int32} {dflt lo hi : Int} {offs : Array Int} {len tgt : Nat} (cs : List Int32) (hx : p.tables.exec = Jvm.exec) (hb : c.code = cc) (hdg : decode cc pc = .ok (.tableswitch dflt lo hi offs, len)) (hall : ∀ j, j < offs.size → offs[j]? = some dflt ∨ ∃ k ∈ cs, k.toInt = lo + (j : Int)) (hhi : hi + 1 = lo + (offs.size : Int)) (hn : ∀ k ∈ cs, ¬ x = k) (ht : (pc : Int) + dflt = (tgt : Int))
    (kk : W p l e R s m args below meth c H locs cells slots Q (F0 m tgt ls rest)) : W p l e R s m args below meth c H locs cells slots Q (F0 m pc ls (.int x :: rest)) := by
  by_cases h1 : x.toInt < lo
  · exact lv_tableOut hx hb hdg (Or.inl h1) ht kk
  by_cases h2 : hi < x.toInt
  · exact lv_tableOut hx hb hdg (Or.inr h2) ht kk
  have hj : (x.toInt - lo).toNat < offs.size := by omega
  rcases hall _ hj with h3 | ⟨k, hk, h3⟩
  · exact lv_tableIn hx hb hdg h1 h2 h3 ht kk
  · exact absurd (Int32.toInt_inj.mp (by rw [h3]; omega)) (hn k hk)
variable {y : MethodName} {ws ws' : List Cond} {rm : Room} {bytes : ByteArray} {maxL n index : Nat} {ret : Option FieldType} {As st : List Value} {o : Int32 × MS}
theorem m_blind {av : List Value} {sz : Nat} : FrameBlind (va_Pc av (mB D cy ci h I A sz)) := fun a U g mk q => by
  obtain ⟨q0, q1, qP, qK, qD⟩ := q
  exact ⟨q0, q1, qP, va_K.moved (u := U) (U := U.calling g mk a) (Vm.Alike.refl U.vm) qK, qD⟩
theorem m_free (hM : mH D cy ci h A0 s H locs I A) : ∀ q, va_A (mW cy ci h I A) H.size q → A0 q := by
  obtain ⟨hP, hD, hS, hK, hA⟩ := hM
  intro q hq
  rcases hq with ⟨k, e, hk⟩ | hq
  · exact hD.2 k (q, e) hk
  · exact hA q (Nat.le_trans hS.1 hq)
theorem m_preS (hM : mH D cy ci h A0 s H locs I A) : PreS s H (va_Pc As (mB D cy ci h I A H.size)) As := by
  obtain ⟨hP, hD, hS, hK, hA⟩ := hM
  exact ⟨m_blind, fun U hU hW => ⟨rfl, by rw [hU], by rw [hU]; exact hP, va_K.moved hW.alike hK, hD.weaken (fun _ _ _ _ => trivial)⟩⟩
theorem m_preV (hM : mH D cy ci h A0 s H locs I A) : PreV s H RX12 (h 0) (va_Pc (.ref (h 0) :: As) (mB D cy ci h I A H.size)) As := by
  obtain ⟨hP, hD, hS, hK, hA⟩ := hM
  exact ⟨m_blind, va_recv hK hP (ci := 12) (q0 := 0) rfl rfl, fun U hU hW => ⟨rfl, by rw [hU], by rw [hU]; exact hP, va_K.moved hW.alike hK, hD.weaken (fun _ _ _ _ => trivial)⟩⟩
theorem m_callVi (X : CallFix p m c cc nL s args Ts RX12) (hM : mH D cy ci h A0 s H locs I A) (hc : mMi l y ws rm (.ref (h 0) :: As) D cy ci h I A o) (hT : GoodIn Ts (wsV RX12 index RX12 y ws)) (hw : ws = Cond.code y bytes maxL ret :: ws') (hrm : rm.cells = 0 ∧ rm.slots = 0)
    (hd : y.cls = RX12 ∧ y.cls ≠ "java/lang/invoke/MethodHandle" ∧ y.cls ≠ "java/lang/invoke/VarHandle" ∧ (parseMethodDescriptor y.desc).map (fun d => d.parameters.length) = some n) (hR : rm.frames + 1 ≤ R.frames ∧ 8 + (maxL + 11) + rm.locals ≤ R.locals) (hn : As.length = n) (hls : ls.size = nL) (hst : st = As.reverse ++ .ref (h 0) :: rest) (hrest : (rest.map fun v => v.category).sum ≤ 8) (hdg : decode cc pc = .ok (.invokevirtual index, 3))
    (kk : ∀ (H : Heap) (locs : List Loc), mH D cy ci h A0 s H locs o.2.1 o.2.2 → W p l e R s m args below meth c H locs 0 0 Q (F0 m (pc + 3) ls (.int o.1 :: rest))) : W p l e R s m args below meth c H locs 0 0 Q (F0 m pc ls st) := by
  subst hst
  have hF := m_free hM
  refine va_calli (va_runV (As := As) (rest := rest) X (hc H.size) (cwV n X.2.2.2.2 hT hw hrm.1 hrm.2 hd hR) (m_preV hM) rfl hn hls rfl (lv_room hrest) hdg ⟨Nat.zero_le _, Nat.zero_le _⟩) hM.2.2.1 (fun q _ hq => hF q hq) hF (fun r u t H1 locs1 ht hvm hw1 hB hz1 hk1 hS => ?_)
  obtain ⟨hP, hD, hS0, hK, hA⟩ := hM
  have hB' : va_P D vwCl (mW cy ci h o.2.1 o.2.2) t.heap := hB
  rw [ht] at hB'
  have hw2 : r = o.1 := hw1
  subst hw2
  exact kk H1 locs1 ⟨hB', mD_any hD, hS, hK, hA⟩
theorem m_callVv (X : CallFix p m c cc nL s args Ts RX12) (hM : mH D cy ci h A0 s H locs I A) (hc : mMv l y ws rm (.ref (h 0) :: As) D cy ci h I A o) (hT : GoodIn Ts (wsV RX12 index RX12 y ws)) (hw : ws = Cond.code y bytes maxL ret :: ws') (hrm : rm.cells = 0 ∧ rm.slots = 0)
    (hd : y.cls = RX12 ∧ y.cls ≠ "java/lang/invoke/MethodHandle" ∧ y.cls ≠ "java/lang/invoke/VarHandle" ∧ (parseMethodDescriptor y.desc).map (fun d => d.parameters.length) = some n) (hR : rm.frames + 1 ≤ R.frames ∧ 8 + (maxL + 11) + rm.locals ≤ R.locals) (hn : As.length = n) (hls : ls.size = nL) (hst : st = As.reverse ++ .ref (h 0) :: rest) (hrest : (rest.map fun v => v.category).sum ≤ 8) (hdg : decode cc pc = .ok (.invokevirtual index, 3))
    (kk : ∀ (H : Heap) (locs : List Loc), mH D cy ci h A0 s H locs o.2.1 o.2.2 → W p l e R s m args below meth c H locs 0 0 Q (F0 m (pc + 3) ls rest)) : W p l e R s m args below meth c H locs 0 0 Q (F0 m pc ls st) := by
  subst hst
  have hF := m_free hM
  refine va_callv (va_runV (As := As) (rest := rest) X (hc H.size) (cwV n X.2.2.2.2 hT hw hrm.1 hrm.2 hd hR) (m_preV hM) rfl hn hls rfl (lv_room hrest) hdg ⟨Nat.zero_le _, Nat.zero_le _⟩) hM.2.2.1 (fun q _ hq => hF q hq) hF (fun u t H1 locs1 ht hvm hw1 hB hz1 hk1 hS => ?_)
  obtain ⟨hP, hD, hS0, hK, hA⟩ := hM
  have hB' : va_P D vwCl (mW cy ci h o.2.1 o.2.2) t.heap := hB
  rw [ht] at hB'
  exact kk H1 locs1 ⟨hB', mD_any hD, hS, hK, hA⟩
theorem m_callSi (X : CallFix p m c cc nL s args Ts RX12) (hM : mH D cy ci h A0 s H locs I A) (hc : mMi l y ws rm As D cy ci h I A o) (hT : GoodIn Ts (va_wsS RX12 index y ws)) (hw : ws = Cond.code y bytes maxL ret :: ws') (hrm : rm.cells = 0 ∧ rm.slots = 0)
    (hd : y.cls ≠ "java/lang/invoke/MethodHandle" ∧ y.cls ≠ "java/lang/invoke/VarHandle" ∧ (parseMethodDescriptor y.desc).map (fun d => d.parameters.length) = some n) (hR : rm.frames + 1 ≤ R.frames ∧ 8 + (maxL + 11) + rm.locals ≤ R.locals) (hn : As.length = n) (hls : ls.size = nL) (hst : st = As.reverse ++ rest) (hrest : (rest.map fun v => v.category).sum ≤ 8) (hdg : decode cc pc = .ok (.invokestatic index, 3))
    (kk : ∀ (H : Heap) (locs : List Loc), mH D cy ci h A0 s H locs o.2.1 o.2.2 → W p l e R s m args below meth c H locs 0 0 Q (F0 m (pc + 3) ls (.int o.1 :: rest))) : W p l e R s m args below meth c H locs 0 0 Q (F0 m pc ls st) := by
  subst hst
  have hF := m_free hM
  refine va_calli (va_runS (As := As) (rest := rest) X (hc H.size) (va_cwS n X.2.2.2.2 hT hw hrm.1 hrm.2 hd hR) (m_preS hM) rfl hn hls rfl (lv_room hrest) hdg ⟨Nat.zero_le _, Nat.zero_le _⟩) hM.2.2.1 (fun q _ hq => hF q hq) hF (fun r u t H1 locs1 ht hvm hw1 hB hz1 hk1 hS => ?_)
  obtain ⟨hP, hD, hS0, hK, hA⟩ := hM
  have hB' : va_P D vwCl (mW cy ci h o.2.1 o.2.2) t.heap := hB
  rw [ht] at hB'
  have hw2 : r = o.1 := hw1
  subst hw2
  exact kk H1 locs1 ⟨hB', mD_any hD, hS, hK, hA⟩
end ML
theorem m_entryI {l : Launch} {y : MethodName} {ws ws' : List Cond} {rm : Room} {cc : ByteArray} {maxL : Nat} {ty : FieldType} {av : List Value} {D : va_G} {cy ci : ClassId} {h : Nat → Nat} {I : Nat → Int32} {A : Nat → Nat → Int32} {o : Int32 × MS} (hy : plainName y.cls = true) (hcls : y.cls = RX12) (hw : ws = Cond.code y cc maxL (some ty) :: ws') (hav : (lg_sl av).length ≤ maxL)
    (body : ∀ (p : Program) (e : Env) (s : State) (m : MethodId) (args : Array Value) (below : List Frame) (meth : Method) (c : Code) (A0 : Nat → Prop) (Q : State → Prop) (H : Heap) (locs : List Loc) (ls : Array Slot), CallFix p m c cc maxL s args ws RX12 → mRi p l e rm s m args below meth c Q cc D cy ci h A0 ty o → mH D cy ci h A0 s H locs I A → lv_has ls maxL (lv_args 0 av) → W p l e rm s m args below meth c H locs 0 0 Q (F0 m 0 ls [])) : mMi l y ws rm av D cy ci h I A o := by
  intro sz
  refine Met.ofW (cc := cc) (maxL := maxL) (ret := some ty) hy hw ?_
  intro p e s m args below meth c s₁ B hml hv
  obtain ⟨rfl, hsz, hP, hK, hD0⟩ := hv
  subst hsz
  have hlocks := B.notSynchronized
  have hr := B.returns
  have X : CallFix p m c cc maxL s av.toArray ws RX12 := ⟨B.exec, B.bytes, hml, by rw [← hcls]; exact findClass_of_methodNamed B.named, atoms_spec (ws := ws) B.pre⟩
  have hl := lv_entry av (n := maxL) hav
  rw [lg_entry_eq]
  have hM : mH D cy ci h (va_A (mW cy ci h I A) s.heap.size) s s.heap [] I A := ⟨hP, hD0.self, va_S.rf, hK, fun q hq => Or.inr hq⟩
  refine body p e s m av.toArray below meth c (va_A (mW cy ci h I A) s.heap.size) _ s.heap [] _ X ?_ hM hl
  intro H locs pc ls hM hn hdg
  exact W.zret (v := o.1) X.1 X.2.1 hr hn (fun t ht hW => ⟨⟨o.1, (), rfl, rfl, by show va_P D vwCl (mW cy ci h o.2.1 o.2.2) t.heap; rw [ht]; exact hM.1⟩, hM.2.2.1.F ht⟩) hM.2.2.1.2.2 hdg
theorem m_entryV {l : Launch} {y : MethodName} {ws ws' : List Cond} {rm : Room} {cc : ByteArray} {maxL : Nat} {av : List Value} {D : va_G} {cy ci : ClassId} {h : Nat → Nat} {I : Nat → Int32} {A : Nat → Nat → Int32} {o : Int32 × MS} (hy : plainName y.cls = true) (hcls : y.cls = RX12) (hw : ws = Cond.code y cc maxL none :: ws') (hav : (lg_sl av).length ≤ maxL)
    (body : ∀ (p : Program) (e : Env) (s : State) (m : MethodId) (args : Array Value) (below : List Frame) (meth : Method) (c : Code) (A0 : Nat → Prop) (Q : State → Prop) (H : Heap) (locs : List Loc) (ls : Array Slot), CallFix p m c cc maxL s args ws RX12 → mRv p l e rm s m args below meth c Q cc D cy ci h A0 o → mH D cy ci h A0 s H locs I A → lv_has ls maxL (lv_args 0 av) → W p l e rm s m args below meth c H locs 0 0 Q (F0 m 0 ls [])) : mMv l y ws rm av D cy ci h I A o := by
  intro sz
  refine Met.ofW (cc := cc) (maxL := maxL) (ret := none) hy hw ?_
  intro p e s m args below meth c s₁ B hml hv
  obtain ⟨rfl, hsz, hP, hK, hD0⟩ := hv
  subst hsz
  have hlocks := B.notSynchronized
  have hr := B.returns
  have X : CallFix p m c cc maxL s av.toArray ws RX12 := ⟨B.exec, B.bytes, hml, by rw [← hcls]; exact findClass_of_methodNamed B.named, atoms_spec (ws := ws) B.pre⟩
  have hl := lv_entry av (n := maxL) hav
  rw [lg_entry_eq]
  have hM : mH D cy ci h (va_A (mW cy ci h I A) s.heap.size) s s.heap [] I A := ⟨hP, hD0.self, va_S.rf, hK, fun q hq => Or.inr hq⟩
  refine body p e s m av.toArray below meth c (va_A (mW cy ci h I A) s.heap.size) _ s.heap [] _ X ?_ hM hl
  intro H locs pc ls hM hdg
  exact W.vret X.1 X.2.1 hr (fun t ht hW => ⟨⟨(), rfl, trivial, by show va_P D vwCl (mW cy ci h o.2.1 o.2.2) t.heap; rw [ht]; exact hM.1⟩, hM.2.2.1.F ht⟩) hM.2.2.1.2.2 hdg
theorem mi_0 {h : Nat → Nat} {I : Nat → Int32} {v : Int32} : (mF h I).set 0 (.int v) = mF h (upd I 0 v) := rfl
theorem mi_1 {h : Nat → Nat} {I : Nat → Int32} {v : Int32} : (mF h I).set 1 (.int v) = mF h (upd I 1 v) := rfl
theorem ma_2 {cy ci : ClassId} {h : Nat → Nat} {I : Nat → Int32} {A : Nat → Nat → Int32} (g : Nat → Int32) : (mW cy ci h I A).set 1 (h 2, .inl (cy, 2000, .inl g)) = mW cy ci h I (va_up A 2 g) := rfl
theorem mi_3 {h : Nat → Nat} {I : Nat → Int32} {v : Int32} : (mF h I).set 3 (.int v) = mF h (upd I 3 v) := rfl
theorem ma_4 {cy ci : ClassId} {h : Nat → Nat} {I : Nat → Int32} {A : Nat → Nat → Int32} (g : Nat → Int32) : (mW cy ci h I A).set 2 (h 4, .inl (cy, 80000, .inl g)) = mW cy ci h I (va_up A 4 g) := rfl
theorem mi_5 {h : Nat → Nat} {I : Nat → Int32} {v : Int32} : (mF h I).set 5 (.int v) = mF h (upd I 5 v) := rfl
theorem mi_6 {h : Nat → Nat} {I : Nat → Int32} {v : Int32} : (mF h I).set 6 (.int v) = mF h (upd I 6 v) := rfl
theorem ma_7 {cy ci : ClassId} {h : Nat → Nat} {I : Nat → Int32} {A : Nat → Nat → Int32} (g : Nat → Int32) : (mW cy ci h I A).set 3 (h 7, .inl (ci, 2, .inl g)) = mW cy ci h I (va_up A 7 g) := rfl
theorem ma_8 {cy ci : ClassId} {h : Nat → Nat} {I : Nat → Int32} {A : Nat → Nat → Int32} (g : Nat → Int32) : (mW cy ci h I A).set 4 (h 8, .inl (ci, 602, .inl g)) = mW cy ci h I (va_up A 8 g) := rfl
theorem ma_9 {cy ci : ClassId} {h : Nat → Nat} {I : Nat → Int32} {A : Nat → Nat → Int32} (g : Nat → Int32) : (mW cy ci h I A).set 5 (h 9, .inl (ci, 602, .inl g)) = mW cy ci h I (va_up A 9 g) := rfl
theorem ma_10 {cy ci : ClassId} {h : Nat → Nat} {I : Nat → Int32} {A : Nat → Nat → Int32} (g : Nat → Int32) : (mW cy ci h I A).set 6 (h 10, .inl (ci, 602, .inl g)) = mW cy ci h I (va_up A 10 g) := rfl
theorem ma_11 {cy ci : ClassId} {h : Nat → Nat} {I : Nat → Int32} {A : Nat → Nat → Int32} (g : Nat → Int32) : (mW cy ci h I A).set 7 (h 11, .inl (ci, 602, .inl g)) = mW cy ci h I (va_up A 11 g) := rfl
theorem ma_12 {cy ci : ClassId} {h : Nat → Nat} {I : Nat → Int32} {A : Nat → Nat → Int32} (g : Nat → Int32) : (mW cy ci h I A).set 8 (h 12, .inl (ci, 602, .inl g)) = mW cy ci h I (va_up A 12 g) := rfl
theorem ma_13 {cy ci : ClassId} {h : Nat → Nat} {I : Nat → Int32} {A : Nat → Nat → Int32} (g : Nat → Int32) : (mW cy ci h I A).set 9 (h 13, .inl (ci, 2408, .inl g)) = mW cy ci h I (va_up A 13 g) := rfl
theorem ma_14 {cy ci : ClassId} {h : Nat → Nat} {I : Nat → Int32} {A : Nat → Nat → Int32} (g : Nat → Int32) : (mW cy ci h I A).set 10 (h 14, .inl (ci, 602, .inl g)) = mW cy ci h I (va_up A 14 g) := rfl
theorem ma_15 {cy ci : ClassId} {h : Nat → Nat} {I : Nat → Int32} {A : Nat → Nat → Int32} (g : Nat → Int32) : (mW cy ci h I A).set 11 (h 15, .inl (cy, 120400, .inl g)) = mW cy ci h I (va_up A 15 g) := rfl
theorem ma_16 {cy ci : ClassId} {h : Nat → Nat} {I : Nat → Int32} {A : Nat → Nat → Int32} (g : Nat → Int32) : (mW cy ci h I A).set 12 (h 16, .inl (ci, 128, .inl g)) = mW cy ci h I (va_up A 16 g) := rfl
theorem ma_17 {cy ci : ClassId} {h : Nat → Nat} {I : Nat → Int32} {A : Nat → Nat → Int32} (g : Nat → Int32) : (mW cy ci h I A).set 13 (h 17, .inl (ci, 10, .inl g)) = mW cy ci h I (va_up A 17 g) := rfl
theorem ma_18 {cy ci : ClassId} {h : Nat → Nat} {I : Nat → Int32} {A : Nat → Nat → Int32} (g : Nat → Int32) : (mW cy ci h I A).set 14 (h 18, .inl (ci, 2, .inl g)) = mW cy ci h I (va_up A 18 g) := rfl
theorem ma_19 {cy ci : ClassId} {h : Nat → Nat} {I : Nat → Int32} {A : Nat → Nat → Int32} (g : Nat → Int32) : (mW cy ci h I A).set 15 (h 19, .inl (ci, 16, .inl g)) = mW cy ci h I (va_up A 19 g) := rfl
theorem ma_20 {cy ci : ClassId} {h : Nat → Nat} {I : Nat → Int32} {A : Nat → Nat → Int32} (g : Nat → Int32) : (mW cy ci h I A).set 16 (h 20, .inl (cy, 192, .inl g)) = mW cy ci h I (va_up A 20 g) := rfl
theorem ma_21 {cy ci : ClassId} {h : Nat → Nat} {I : Nat → Int32} {A : Nat → Nat → Int32} (g : Nat → Int32) : (mW cy ci h I A).set 17 (h 21, .inl (ci, 16, .inl g)) = mW cy ci h I (va_up A 21 g) := rfl
theorem ma_22 {cy ci : ClassId} {h : Nat → Nat} {I : Nat → Int32} {A : Nat → Nat → Int32} (g : Nat → Int32) : (mW cy ci h I A).set 18 (h 22, .inl (cy, 1536, .inl g)) = mW cy ci h I (va_up A 22 g) := rfl
theorem ma_23 {cy ci : ClassId} {h : Nat → Nat} {I : Nat → Int32} {A : Nat → Nat → Int32} (g : Nat → Int32) : (mW cy ci h I A).set 19 (h 23, .inl (ci, 2, .inl g)) = mW cy ci h I (va_up A 23 g) := rfl
theorem ma_24 {cy ci : ClassId} {h : Nat → Nat} {I : Nat → Int32} {A : Nat → Nat → Int32} (g : Nat → Int32) : (mW cy ci h I A).set 20 (h 24, .inl (ci, 64, .inl g)) = mW cy ci h I (va_up A 24 g) := rfl
theorem mi_25 {h : Nat → Nat} {I : Nat → Int32} {v : Int32} : (mF h I).set 25 (.int v) = mF h (upd I 25 v) := rfl
theorem mi_26 {h : Nat → Nat} {I : Nat → Int32} {v : Int32} : (mF h I).set 26 (.int v) = mF h (upd I 26 v) := rfl
theorem mi_27 {h : Nat → Nat} {I : Nat → Int32} {v : Int32} : (mF h I).set 27 (.int v) = mF h (upd I 27 v) := rfl
theorem mi_28 {h : Nat → Nat} {I : Nat → Int32} {v : Int32} : (mF h I).set 28 (.int v) = mF h (upd I 28 v) := rfl
theorem mi_29 {h : Nat → Nat} {I : Nat → Int32} {v : Int32} : (mF h I).set 29 (.int v) = mF h (upd I 29 v) := rfl
theorem ma_30 {cy ci : ClassId} {h : Nat → Nat} {I : Nat → Int32} {A : Nat → Nat → Int32} (g : Nat → Int32) : (mW cy ci h I A).set 21 (h 30, .inl (ci, 64, .inl g)) = mW cy ci h I (va_up A 30 g) := rfl
theorem ma_31 {cy ci : ClassId} {h : Nat → Nat} {I : Nat → Int32} {A : Nat → Nat → Int32} (g : Nat → Int32) : (mW cy ci h I A).set 22 (h 31, .inl (ci, 5, .inl g)) = mW cy ci h I (va_up A 31 g) := rfl
theorem ma_32 {cy ci : ClassId} {h : Nat → Nat} {I : Nat → Int32} {A : Nat → Nat → Int32} (g : Nat → Int32) : (mW cy ci h I A).set 23 (h 32, .inl (ci, 2048, .inl g)) = mW cy ci h I (va_up A 32 g) := rfl
theorem mi_33 {h : Nat → Nat} {I : Nat → Int32} {v : Int32} : (mF h I).set 33 (.int v) = mF h (upd I 33 v) := rfl
theorem ma_34 {cy ci : ClassId} {h : Nat → Nat} {I : Nat → Int32} {A : Nat → Nat → Int32} (g : Nat → Int32) : (mW cy ci h I A).set 24 (h 34, .inl (ci, 301, .inl g)) = mW cy ci h I (va_up A 34 g) := rfl
theorem ma_35 {cy ci : ClassId} {h : Nat → Nat} {I : Nat → Int32} {A : Nat → Nat → Int32} (g : Nat → Int32) : (mW cy ci h I A).set 25 (h 35, .inl (cy, 16, .inl g)) = mW cy ci h I (va_up A 35 g) := rfl
theorem mi_36 {h : Nat → Nat} {I : Nat → Int32} {v : Int32} : (mF h I).set 36 (.int v) = mF h (upd I 36 v) := rfl
theorem mi_37 {h : Nat → Nat} {I : Nat → Int32} {v : Int32} : (mF h I).set 37 (.int v) = mF h (upd I 37 v) := rfl
theorem mi_38 {h : Nat → Nat} {I : Nat → Int32} {v : Int32} : (mF h I).set 38 (.int v) = mF h (upd I 38 v) := rfl
theorem mi_39 {h : Nat → Nat} {I : Nat → Int32} {v : Int32} : (mF h I).set 39 (.int v) = mF h (upd I 39 v) := rfl
