/-- j numbers are left out, nothing else -/
def zsJ (S : ZS) (j : Nat) : ZS := (zL S, zK S, zI S, zP S, zN S, zA S, zB S, zc S, zt S + j, zu S)
abbrev oE (cJ : ClassId) (F : Nat → Int64) : va_E := .inl (cJ, 1, .inr (.inl F))
abbrev mAd (h : Nat → Nat) : List Nat := [h 0, h 2, h 4, h 7, h 8, h 9, h 10, h 11, h 12, h 13, h 14, h 15, h 16, h 17, h 18, h 19, h 20, h 21, h 22, h 23, h 24, h 30, h 31, h 32, h 34, h 35]
theorem mAd_W {cy ci : ClassId} {h : Nat → Nat} {I : Nat → Int32} {A : Nat → Nat → Int32} : (mW cy ci h I A).map Prod.fst = mAd h := rfl
theorem mAd_at {cy ci : ClassId} {h : Nat → Nat} {I : Nat → Int32} {A : Nat → Nat → Int32} {k : Nat} {x : Nat × va_E} (hk : (mW cy ci h I A)[k]? = some x) : x.1 ∈ mAd h := by
  rw [← mAd_W (cy := cy) (ci := ci) (I := I) (A := A)]
  exact List.mem_map.mpr ⟨x, List.mem_of_getElem? hk, rfl⟩
theorem mAd_in {cy ci : ClassId} {h : Nat → Nat} {I : Nat → Int32} {A : Nat → Nat → Int32} {q : Nat} (hq : q ∈ mAd h) : ∃ (k : Nat) (e : va_E), (mW cy ci h I A)[k]? = some (q, e) := by
  rw [← mAd_W (cy := cy) (ci := ci) (I := I) (A := A)] at hq
  obtain ⟨x, hx, rfl⟩ := List.mem_map.mp hq
  obtain ⟨k, hk⟩ := List.getElem?_of_mem hx
  exact ⟨k, x.2, hk⟩
theorem lp_l {D : va_G} {cl : List vw_C} {w1 w2 : va_W} {H : Heap} (h : va_P D cl (w1 ++ w2) H) : va_P D cl w1 H := fun k q hk => h k q (by rw [List.getElem?_append_left (List.getElem?_eq_some_iff.mp hk).1]; exact hk)
theorem lp_r {D : va_G} {cl : List vw_C} {w1 w2 : va_W} {H : Heap} (h : va_P D cl (w1 ++ w2) H) : va_P D cl w2 H := fun k q hk => h (w1.length + k) q (by rw [List.getElem?_append_right (Nat.le_add_right _ _), Nat.add_sub_cancel_left]; exact hk)
theorem ld_a {A : Nat → Prop} {w : va_W} {x : Nat × va_E} (h : va_D A w) (hx : A x.1) (hn : ∀ (k : Nat) (z : Nat × va_E), w[k]? = some z → z.1 ≠ x.1) : va_D A (w ++ [x]) := by
  have key : ∀ (i : Nat) (z : Nat × va_E), (w ++ [x])[i]? = some z → w[i]? = some z ∨ (i = w.length ∧ z = x) := by
    intro i z hi
    by_cases hl : i < w.length
    · rw [List.getElem?_append_left hl] at hi; exact Or.inl hi
    · rw [List.getElem?_append_right (Nat.not_lt.mp hl)] at hi
      have h1 : i - w.length < 1 := (List.getElem?_eq_some_iff.mp hi).1
      have h2 : i = w.length := by omega
      rw [h2, Nat.sub_self] at hi
      exact Or.inr ⟨h2, (Option.some.inj hi).symm⟩
  refine ⟨fun i j a b hi hj hab => ?_, fun k q hk => ?_⟩
  · rcases key i a hi with h1 | ⟨h1, h1'⟩ <;> rcases key j b hj with h2 | ⟨h2, h2'⟩
    · exact h.1 i j a b h1 h2 hab
    · exact absurd (by rw [hab, h2']) (hn i a h1)
    · exact absurd (by rw [← hab, h1']) (hn j b h2)
    · rw [h1, h2]
  · rcases key k q hk with h1 | ⟨-, h1⟩
    · exact h.2 k q h1
    · rw [h1]; exact hx
theorem l_zat {y : Nat → ClassId} {S : ZS} {k : Nat} {x : Nat × va_E} (hk : (zW y S)[k]? = some x) : ∃ a ∈ zL S, zh y a = x.1 := by
  have hm : x ∈ zW y S := List.mem_of_getElem? hk
  obtain ⟨a, ha, rfl⟩ := List.mem_map.mp hm
  exact ⟨a, ha, rfl⟩
theorem l_notA {y : Nat → ClassId} {S : ZS} {sz q : Nat} (hq : q < sz) (hn : ∀ a ∈ zL S, zh y a ≠ q) : ¬ va_A (zW y S) sz q := by
  rintro (⟨k, e, hk⟩ | h)
  · obtain ⟨a, ha, e1⟩ := l_zat hk
    exact hn a ha e1
  · exact absurd hq (Nat.not_lt.mpr h)
theorem l_new {y : Nat → ClassId} {S S1 : ZS} {sz q : Nat} (hD : va_D (va_A (zW y S) sz) (zW y S1)) (hq : q < sz) (hn : ∀ a ∈ zL S, zh y a ≠ q) : ∀ a ∈ zL S1, zh y a ≠ q := fun a ha e1 => by
  obtain ⟨k, hk⟩ := zW_at (y := y) ha
  have h1 := hD.2 k _ hk
  rw [show ((zh y a, zF y S1 a) : Nat × va_E).1 = q from e1] at h1
  exact l_notA hq hn h1
/-- the class's pool and the law's row -/
def LH0 (D : va_G) (y : Nat → ClassId) (ob : Nat) (cJ : ClassId) (A0 : Nat → Prop) (s : State) (H : Heap) (locs : List Loc) (S : ZS) (F : Nat → Int64) : Prop :=
  zH D y A0 s H locs S ∧ va_P D vwCl [(ob, oE cJ F)] H ∧ (A0 ob ∧ va_K D vwCl [(cJ, .long)] s) ∧ (∀ a ∈ zL S, zh y a ≠ ob) ∧ zX A0 s s.heap
/-- .. and the reference -/
def LH (D : va_G) (y : Nat → ClassId) (h : Nat → Nat) (ob : Nat) (cJ : ClassId) (A0 : Nat → Prop) (s : State) (H : Heap) (locs : List Loc) (I : Nat → Int32) (A : Nat → Nat → Int32) (S : ZS) (F : Nat → Int64) : Prop :=
  LH0 D y ob cJ A0 s H locs S F ∧ va_P D vwCl (mW (y 13) (y 14) h I A) H ∧ va_D A0 (mW (y 13) (y 14) h I A) ∧ ∀ q ∈ mAd h, q ≠ ob ∧ ∀ a ∈ zL S, zh y a ≠ q
theorem l_K {D : va_G} {y : Nat → ClassId} {s : State} (hK : va_K D vwCl (zT y) s) : va_K D vwCl [(y 13, .char), (y 14, .int)] s :=
  ⟨hK.1, fun k q hk => by
    match k, hk with
    | 0, hk => exact hK.2 0 q hk
    | 1, hk => exact hK.2 1 q hk⟩
section LL
variable {p : Program} {l : Launch} {e : Env} {R : Room} {s : State} {m : MethodId} {args : Array Value} {below : List Frame} {meth : Method} {c : Code} {H : Heap} {locs : List Loc} {cells slots : Nat} {Q : State → Prop}
variable {cc : ByteArray} {pc nL : Nat} {ls : Array Slot} {rest : List Value} {D : va_G} {A0 : Nat → Prop} {Ts : List Cond} {y : Nat → ClassId} {S : ZS} {own : String} {a ob : Nat} {cJ : ClassId} {F : Nat → Int64} {h : Nat → Nat} {I : Nat → Int32} {A : Nat → Nat → Int32}
theorem L_oblt (hP : va_P D vwCl [(ob, oE cJ F)] H) : ob < H.size := (hP 0 _ rfl).lt
theorem L_okeep {H1 : Heap} (hP : va_P D vwCl [(ob, oE cJ F)] H) (hk : H1[ob]? = H[ob]?) : va_P D vwCl [(ob, oE cJ F)] H1 := hP.kept (fun k x hx => by
  have hz : k < 1 := (List.getElem?_eq_some_iff.mp hx).1
  rw [show k = 0 by omega] at hx
  cases hx
  exact hk)
theorem L_mkeep {H1 : Heap} (hP : va_P D vwCl (mW (y 13) (y 14) h I A) H) (hk : ∀ q ∈ mAd h, H1[q]? = H[q]?) : va_P D vwCl (mW (y 13) (y 14) h I A) H1 := hP.kept (fun k x hx => hk x.1 (mAd_at hx))
theorem L_mlt (hP : va_P D vwCl (mW (y 13) (y 14) h I A) H) {q : Nat} (hq : q ∈ mAd h) : q < H.size := by
  obtain ⟨k, e1, hk⟩ := mAd_in (cy := y 13) (ci := y 14) (I := I) (A := A) hq
  exact (hP k _ hk).lt
/-- the law's row is written -/
theorem L_last (X : CallFix p m c cc nL s args Ts own) (hM : LH0 D y ob cJ A0 s H locs S F) {x : Int64} (hdg : decode cc pc = .ok (.lastore, 1))
    (kk : ∀ (H : Heap) (locs : List Loc) (F : Nat → Int64), F 0 = x → LH0 D y ob cJ A0 s H locs S F → W p l e R s m args below meth c H locs cells slots Q (F0 m (pc + 1) ls rest)) : W p l e R s m args below meth c H locs cells slots Q (F0 m pc ls (.long x :: .int 0 :: .ref ob :: rest)) := by
  obtain ⟨hz, hP, ⟨hob, hKJ⟩, hne, hX⟩ := hM
  have hP2 : va_P D vwCl (zW y S ++ [(ob, oE cJ F)]) H := hz.1.app hP
  have hD2 : va_D A0 (zW y S ++ [(ob, oE cJ F)]) := ld_a hz.2.1 hob (fun k z hk => by
    obtain ⟨a, ha, e1⟩ := l_zat hk
    rw [← e1]; exact hne a ha)
  refine z_tight hz.2.2.1.1 (fun c9 h8 h9 => ?_)
  refine va_last (D := D) (tys := [(cJ, .long)]) X.1 X.2.1 hKJ hP2 hD2 (z_Srf hz.2.2.1) (zW y S).length 0 (by rw [List.getElem?_append_right (Nat.le_refl _), Nat.sub_self]; rfl) rfl (by unfold vp_in; decide) hdg (fun H1 locs1 hP1 hD1 hS1 => ?_)
  refine z_loose h9 (fun h7 => ?_)
  have hz9 : H1.size = H.size := Nat.le_antisymm (h8 ▸ h7) hS1.1
  rw [List.set_append_right _ _ (Nat.le_refl _), Nat.sub_self] at hP1
  exact kk H1 locs1 _ rfl ⟨⟨lp_l hP1, hz.2.1, z_Str hz.2.2.1 hS1, hz.2.2.2.1, hz.2.2.2.2.1, hz.2.2.2.2.2.1, zG_put hz.2.2.2.2.2.2 hz9 rfl⟩, lp_r hP1, ⟨hob, hKJ⟩, hne, hX⟩
variable {q : MethodName} {ws ws' : List Cond} {rm : Room} {bytes : ByteArray} {maxL n index : Nat} {ret : Option FieldType} {As st : List Value} {mc ms : Nat} {Pw : Int32 → ZS → Prop} {Px : Nat → ZS → Prop}
theorem z_preVX (ha : a ∈ zL S ∧ zK S a = 11) (hM : zH D y A0 s H locs S) (hX : zX A0 s s.heap) : PreV s H RX11 (zh y a) (va_Pc (.ref (zh y a) :: As) (zB1 D y S H.size)) As := by
  have hF := z_free hM
  obtain ⟨h1, h2, h3⟩ := z_preV (As := As) (k := 11) (C := RX11) (T := TX11) (N := 10) (fl := zf_11) rfl zc_11 ha hM
  refine ⟨fun a1 U g mk q => ⟨q.1, (h1 a1 U g mk ⟨q.1, q.2.1⟩).2, zX_blind q.2.2⟩, h2, fun U hU hW => ⟨(h3 U hU hW).1, (h3 U hU hW).2, zX_call hX hM.2.2.1 hF hU hW⟩⟩
theorem L_xpost {H1 : Heap} {locs1 : List Loc} {S1 : ZS} (hM : LH0 D y ob cJ A0 s H locs S F) (hP : va_P D vwCl (zW y S1) H1) (hD : va_D (va_A (zW y S) H.size) (zW y S1)) (hG : zG y S1 H1.size) (hk : ∀ q : Nat, q < H.size → ¬ va_A (zW y S) H.size q → H1[q]? = H[q]?) (hS : va_S A0 s.heap H1 locs1) : LH0 D y ob cJ A0 s H1 locs1 S1 F := by
  have hF := z_free hM.1
  obtain ⟨hz, hPo, hob, hne, hX⟩ := hM
  have ho := L_oblt hPo
  exact ⟨⟨hP, hD.weaken (fun _ q _ h9 => hF q.1 h9), hS, hz.2.2.2.1, hz.2.2.2.2.1, hz.2.2.2.2.2.1, hG⟩, L_okeep hPo (hk ob ho (l_notA ho hne)), hob, l_new hD ho hne, hX⟩
/-- a call of a method that throws, from one of the law's own -/
theorem L_xcalli (X : CallFix p m c cc nL s args Ts RL) (hM : LH0 D y ob cJ A0 s H locs S F) (ha : a ∈ zL S ∧ zK S a = 11) (hc : zXi l q ws rm (.ref (zh y a) :: As) D y S mc ms Pw Px) (hT : GoodIn Ts (wsV RL index RX11 q ws)) (hw : ws = Cond.code q bytes maxL ret :: ws') (hrm : rm.cells = mc ∧ rm.slots = ms) (hcs : cells + mc ≤ R.cells ∧ slots + ms ≤ R.slots)
    (hd : q.cls = RX11 ∧ q.cls ≠ "java/lang/invoke/MethodHandle" ∧ q.cls ≠ "java/lang/invoke/VarHandle" ∧ (parseMethodDescriptor q.desc).map (fun d => d.parameters.length) = some n) (hR : rm.frames + 1 ≤ R.frames ∧ 8 + (maxL + 11) + rm.locals ≤ R.locals) (hn : As.length = n) (hls : ls.size = nL) (hst : st = As.reverse ++ .ref (zh y a) :: rest) (hrest : (rest.map fun v => v.category).sum ≤ 8) (hdg : decode cc pc = .ok (.invokevirtual index, 3))
    (kx : ∀ (k : Nat) (S1 : ZS) (H1 : Heap) (locs1 : List Loc) (q9 : Addr) (ce : Cell), Px k S1 → LH0 D y ob cJ A0 s H1 locs1 S1 F → H1[q9]? = some ce → ce.vm = .none → s.vm.findClass (xN k) = some ce.cls → vx_W p l e R s m args below meth c H1 locs1 (cells + mc) (slots + ms) Q (F0 m pc ls rest) q9)
    (kk : ∀ (r : Int32) (S1 : ZS) (H1 : Heap) (locs1 : List Loc), Pw r S1 → LH0 D y ob cJ A0 s H1 locs1 S1 F → W p l e R s m args below meth c H1 locs1 (cells + mc) (slots + ms) Q (F0 m (pc + 3) ls (.int r :: rest))) : W p l e R s m args below meth c H locs cells slots Q (F0 m pc ls st) := by
  subst hst
  have hF := z_free hM.1
  refine vx_calli (A0 := A0) (vx_runV (As := As) (rest := rest) X (hc H.size) (cwV n X.2.2.2.2 hT hw hrm.1 hrm.2 hd hR) (z_preVX ha hM.1 hM.2.2.2.2) rfl hn hls rfl (lv_room hrest) hdg hcs) hM.1.2.2.1 (fun q _ hq => hF q hq) hF (fun q _ hq => hF q hq) (fun E ce q9 u t H1 locs1 ht hvm hp hB hz1 hk1 hS h5 h6 h7 => ?_) (fun r u t H1 locs1 ht hvm hp hB hz1 hk1 hS => ?_)
  · obtain ⟨rfl, hP1, hD1, hG1⟩ := hB
    rw [ht] at hP1 hG1
    exact kx u.1 u.2 H1 locs1 q9 ce hp (L_xpost hM hP1 hD1 hG1 hk1 hS) h5 h6 h7
  · obtain ⟨hP1, hD1, hG1⟩ := hB
    rw [ht] at hP1 hG1
    exact kk r u H1 locs1 hp (L_xpost hM hP1 hD1 hG1 hk1 hS)
theorem L_xcallv (X : CallFix p m c cc nL s args Ts RL) (hM : LH0 D y ob cJ A0 s H locs S F) (ha : a ∈ zL S ∧ zK S a = 11) (hc : zXv l q ws rm (.ref (zh y a) :: As) D y S mc ms Pw Px) (hT : GoodIn Ts (wsV RL index RX11 q ws)) (hw : ws = Cond.code q bytes maxL ret :: ws') (hrm : rm.cells = mc ∧ rm.slots = ms) (hcs : cells + mc ≤ R.cells ∧ slots + ms ≤ R.slots)
    (hd : q.cls = RX11 ∧ q.cls ≠ "java/lang/invoke/MethodHandle" ∧ q.cls ≠ "java/lang/invoke/VarHandle" ∧ (parseMethodDescriptor q.desc).map (fun d => d.parameters.length) = some n) (hR : rm.frames + 1 ≤ R.frames ∧ 8 + (maxL + 11) + rm.locals ≤ R.locals) (hn : As.length = n) (hls : ls.size = nL) (hst : st = As.reverse ++ .ref (zh y a) :: rest) (hrest : (rest.map fun v => v.category).sum ≤ 8) (hdg : decode cc pc = .ok (.invokevirtual index, 3))
    (kx : ∀ (k : Nat) (S1 : ZS) (H1 : Heap) (locs1 : List Loc) (q9 : Addr) (ce : Cell), Px k S1 → LH0 D y ob cJ A0 s H1 locs1 S1 F → H1[q9]? = some ce → ce.vm = .none → s.vm.findClass (xN k) = some ce.cls → vx_W p l e R s m args below meth c H1 locs1 (cells + mc) (slots + ms) Q (F0 m pc ls rest) q9)
    (kk : ∀ (S1 : ZS) (H1 : Heap) (locs1 : List Loc), Pw 0 S1 → LH0 D y ob cJ A0 s H1 locs1 S1 F → W p l e R s m args below meth c H1 locs1 (cells + mc) (slots + ms) Q (F0 m (pc + 3) ls rest)) : W p l e R s m args below meth c H locs cells slots Q (F0 m pc ls st) := by
  subst hst
  have hF := z_free hM.1
  refine vx_callv (A0 := A0) (vx_runV (As := As) (rest := rest) X (hc H.size) (cwV n X.2.2.2.2 hT hw hrm.1 hrm.2 hd hR) (z_preVX ha hM.1 hM.2.2.2.2) rfl hn hls rfl (lv_room hrest) hdg hcs) hM.1.2.2.1 (fun q _ hq => hF q hq) hF (fun q _ hq => hF q hq) (fun E ce q9 u t H1 locs1 ht hvm hp hB hz1 hk1 hS h5 h6 h7 => ?_) (fun u t H1 locs1 ht hvm hp hB hz1 hk1 hS => ?_)
  · obtain ⟨rfl, hP1, hD1, hG1⟩ := hB
    rw [ht] at hP1 hG1
    exact kx u.1 u.2 H1 locs1 q9 ce hp (L_xpost hM hP1 hD1 hG1 hk1 hS) h5 h6 h7
  · obtain ⟨hP1, hD1, hG1⟩ := hB
    rw [ht] at hP1 hG1
    exact kk u H1 locs1 hp (L_xpost hM hP1 hD1 hG1 hk1 hS)
end LL
