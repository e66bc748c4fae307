theorem zd_12 : ∀ j, j < 40 → defaultValue (tyX12 j) = vp_V cF_0 j := by
  intro j hj
  match j, hj with
  | 0, _ => rfl
  | 1, _ => rfl
  | 2, _ => rfl
  | 3, _ => rfl
  | 4, _ => rfl
  | 5, _ => rfl
  | 6, _ => rfl
  | 7, _ => rfl
  | 8, _ => rfl
  | 9, _ => rfl
  | 10, _ => rfl
  | 11, _ => rfl
  | 12, _ => rfl
  | 13, _ => rfl
  | 14, _ => rfl
  | 15, _ => rfl
  | 16, _ => rfl
  | 17, _ => rfl
  | 18, _ => rfl
  | 19, _ => rfl
  | 20, _ => rfl
  | 21, _ => rfl
  | 22, _ => rfl
  | 23, _ => rfl
  | 24, _ => rfl
  | 25, _ => rfl
  | 26, _ => rfl
  | 27, _ => rfl
  | 28, _ => rfl
  | 29, _ => rfl
  | 30, _ => rfl
  | 31, _ => rfl
  | 32, _ => rfl
  | 33, _ => rfl
  | 34, _ => rfl
  | 35, _ => rfl
  | 36, _ => rfl
  | 37, _ => rfl
  | 38, _ => rfl
  | 39, _ => rfl
  | n + 40, h => exact absurd h (by omega)
noncomputable def zSs : ZS := ([], fun _ => 99, fun _ _ => 0, fun _ _ => none, fun _ => 0, fun _ _ => 0, fun _ _ => none, 0, 1, 0)
section LS
variable {p : Program} {l : Launch} {e : Env} {R : Room} {s : State} {m : MethodId} {args : Array Value} {below : List Frame} {meth : Method} {c : Code} {H : Heap} {locs : List Loc} {cells slots : Nat} {Q : State → Prop}
variable {cc : ByteArray} {pc nL : Nat} {ls : Array Slot} {rest : List Value} {D : va_G} {A0 : Nat → Prop} {Ts : List Cond} {y : Nat → ClassId} {S : ZS}
theorem zH_J {H1 : Heap} {locs1 : List Loc} {j : Nat} (hM : zH D y A0 s H locs S) (hk : ∀ a ∈ zL S, H1[zh y a]? = H[zh y a]?) (hz : H1.size = H.size + j) (hS : va_S A0 s.heap H1 locs1) : zH D y A0 s H1 locs1 (zsJ S j) := by
  obtain ⟨hP, hD, -, hK, hA, hE, g1, g2, g3, g4, g5⟩ := hM
  refine ⟨(hP.kept (fun k x hx => ?_) : va_P D vwCl (zW y S) H1), hD, hS, hK, hA, hE, g1, g2, Nat.lt_of_lt_of_le g3 (Nat.le_add_right _ _), ?_, g5⟩
  · obtain ⟨a, ha, e1⟩ := l_zat hx
    rw [← e1]; exact hk a ha
  · show H1.size = y 52 + (zt S + j)
    omega
theorem zH_lt (hM : zH D y A0 s H locs S) {a : Nat} (ha : a ∈ zL S) : zh y a < H.size := by
  obtain ⟨k, hk⟩ := zW_at (y := y) ha
  exact (hM.1 k _ hk).lt
theorem L_newM {index : Nat} (X : CallFix p m c cc nL s args Ts RL) (hw : ∀ w ∈ wsX120, w ∈ Ts) (hcl : Cond.classLink RL index RX12 ∈ Ts ∧ Cond.instantiable RX12 40 ∈ Ts ∧ Cond.initialized RX12 ∈ Ts) (hM : zH D y A0 s H locs S) (hcs : cells + 1 ≤ R.cells ∧ slots + 40 ≤ R.slots) (hdg : decode cc pc = .ok (.new index, 3))
    (kk : ∀ (q : Nat) (H1 : Heap), q = H.size → zH D y A0 s H1 locs (zsJ S 1) → va_P D vwCl (cW_0 (y 13) (y 14) q) H1 → H1.size = q + 1 → W p l e R s m args below meth c H1 locs (cells + 1) (slots + 40) Q (F0 m (pc + 3) ls (.ref q :: rest))) : W p l e R s m args below meth c H locs cells slots Q (F0 m pc ls rest) := by
  have hKn := hM.2.2.2.1.1 12 (RX12, TX12, 40) rfl
  refine W.newcK X.1 X.2.1 X.2.2.2.1 (X.2.2.2.2 _ hcl.1) (X.2.2.2.2 _ hcl.2.1) (X.2.2.2.2 _ hcl.2.2) rfl hdg hcs.1 hcs.2 hKn.2.1 rfl fun H1 kC hkC e1 z1 o1 => ?_
  have hS := hM.2.2.1
  refine kk H.size H1 rfl (zH_J hM (fun a ha => o1 _ (zH_lt hM ha)) z1 ⟨Nat.le_trans hS.1 (by omega), fun x h1 h2 => (o1 x (Nat.lt_of_lt_of_le h1 hS.1)).trans (hS.2.1 x h1 h2), hS.2.2⟩) (fun k x hx => ?_) z1
  have hz : k < 1 := (List.getElem?_eq_some_iff.mp hx).1
  rw [show k = 0 by omega] at hx
  cases hx
  exact ⟨_, rfl, (u_born tyX12 X.2.2.2.2 hw hKn hkC e1 tyX12_ok).to zd_12⟩
theorem L_mc_at {q0 sz z : Nat} {cy ci : ClassId} (h : va_A (cW_0 cy ci q0) sz z) : z = q0 ∨ sz ≤ z := by
  rcases h with ⟨k, e1, hk⟩ | h1
  · have hz : k < 1 := (List.getElem?_eq_some_iff.mp hk).1
    rw [show k = 0 by omega] at hk
    cases hk
    exact Or.inl rfl
  · exact Or.inr h1
/-- the reference is made -/
theorem L_minit {q0 index : Nat} {o : Int32 × MS} (X : CallFix p m c cc nL s args Ts RL) (hM : zH D y A0 s H locs S) (hq : va_P D vwCl (cW_0 (y 13) (y 14) q0) H) (hqA : A0 q0) (hqn : ∀ a ∈ zL S, zh y a ≠ q0) (hc : mMc l D (y 13) (y 14) q0 o) (hT : GoodIn Ts wsX12_init) (hii : Cond.methodLink RL index yX12_init ∈ Ts ∧ Cond.initialized yX12_init.cls ∈ Ts ∧ Cond.instanceMethod yX12_init ∈ Ts) (hcs : cells + 25 ≤ R.cells ∧ slots + 212822 ≤ R.slots) (hR : 8 ≤ R.frames ∧ 320 ≤ R.locals) (hls : ls.size = nL) (hrest : (rest.map fun v => v.category).sum ≤ 8) (hdg : decode cc pc = .ok (.invokespecial index, 3))
    (kk : ∀ (h : Nat → Nat) (H1 : Heap) (locs1 : List Loc), h 0 = q0 → zH D y A0 s H1 locs1 (zsJ S 25) → va_P D vwCl (mW (y 13) (y 14) h o.2.1 o.2.2) H1 → va_D A0 (mW (y 13) (y 14) h o.2.1 o.2.2) → (∀ q ∈ mAd h, q < H1.size ∧ ∀ a ∈ zL S, zh y a ≠ q) → W p l e R s m args below meth c H1 locs1 (cells + 25) (slots + 212822) Q (F0 m (pc + 3) ls rest)) : W p l e R s m args below meth c H locs cells slots Q (F0 m pc ls (.ref q0 :: rest)) := by
  have hq0 : q0 < H.size := (hq 0 _ rfl).lt
  have hF : ∀ z, va_A (cW_0 (y 13) (y 14) q0) H.size z → A0 z := fun z hz => by
    rcases L_mc_at hz with h1 | h1
    · rw [h1]; exact hqA
    · exact hM.2.2.2.2.1 z (Nat.le_trans hM.2.2.1.1 h1)
  have hD1 : va_D (fun _ => True) (cW_0 (y 13) (y 14) q0) := ⟨fun i j x z hi hj _ => by
    have h1 : i < 1 := (List.getElem?_eq_some_iff.mp hi).1
    have h2 : j < 1 := (List.getElem?_eq_some_iff.mp hj).1
    omega, fun _ _ _ => trivial⟩
  have hpre : PreS s H (va_Pc [.ref q0] (mB2 D (y 13) (y 14) q0 H.size)) [.ref q0] := ⟨fun a1 U g mk z => by
    obtain ⟨z0, z1, z2, z3, z4⟩ := z
    exact ⟨z0, z1, z2, va_K.moved (u := U) (U := U.calling g mk a1) (Vm.Alike.refl U.vm) z3, z4⟩, fun U hU hW => ⟨rfl, by rw [hU], by rw [hU]; exact hq, va_K.moved hW.alike (l_K hM.2.2.2.1), hD1⟩⟩
  refine va_callv (va_runI (b := q0) (As := []) (rest := rest) X (hc H.size) (cwI 0 X.2.2.2.2 hT rfl rfl rfl (X.2.2.2.2 _ hii.2.1) (X.2.2.2.2 _ hii.1) (X.2.2.2.2 _ hii.2.2) rfl (by decide +kernel) ⟨hR.1, hR.2⟩) hpre rfl rfl hls rfl (lv_room hrest) hdg hcs) hM.2.2.1 (fun q _ hq => hF q hq) hF (fun u t H1 locs1 ht hvm hw1 hB hz1 hk1 hS => ?_)
  obtain ⟨hP1, hD2, hz2⟩ := hB
  rw [ht] at hP1 hz2
  refine kk u H1 locs1 hw1 (zH_J hM (fun a ha => hk1 _ (zH_lt hM ha) (fun h9 => ?_)) hz2 hS) hP1 (hD2.weaken (fun _ q _ h9 => hF q.1 h9)) (fun q hq => ⟨L_mlt hP1 hq, fun a ha e1 => ?_⟩)
  · rcases L_mc_at h9 with h1 | h1
    · exact hqn a ha h1
    · exact absurd (zH_lt hM ha) (Nat.not_lt.mpr h1)
  · obtain ⟨k, e2, hk⟩ := mAd_in (cy := y 13) (ci := y 14) (I := o.2.1) (A := o.2.2) hq
    rcases L_mc_at (hD2.2 k _ hk) with h1 | h1
    · exact hqn a ha (e1.trans h1)
    · have h2 := zH_lt hM ha
      rw [e1] at h2
      exact absurd h2 (Nat.not_lt.mpr h1)
end LS
theorem nw_L_8 : Cond.classLink RL 8 RX11 ∈ wsL_law ∧ Cond.instantiable RX11 10 ∈ wsL_law ∧ Cond.initialized RX11 ∈ wsL_law := by decide +kernel
theorem nw_L_60 : Cond.classLink RL 60 RX12 ∈ wsL_law ∧ Cond.instantiable RX12 40 ∈ wsL_law ∧ Cond.initialized RX12 ∈ wsL_law := by decide +kernel
theorem ii_L_59 : Cond.methodLink RL 59 yX11_init ∈ wsL_law ∧ Cond.initialized yX11_init.cls ∈ wsL_law ∧ Cond.instanceMethod yX11_init ∈ wsL_law := by decide +kernel
theorem ii_L_62 : Cond.methodLink RL 62 yX12_init ∈ wsL_law ∧ Cond.initialized yX12_init.cls ∈ wsL_law ∧ Cond.instanceMethod yX12_init ∈ wsL_law := by decide +kernel
theorem ar_L : Cond.arrayClass .long ∈ wsL_law := by decide +kernel
set_option maxRecDepth 100000 in
set_option maxHeartbeats 4000000 in
/-- from the entry to the loop: the class's object (number 1), the reference, the row -/
theorem law_entry {p : Program} {l : Launch} {e : Env} {s : State} {m : MethodId} {below : List Frame} {meth : Method} {c : Code} {Q : State → Prop} {D : va_G} {y : Nat → ClassId} {b : Nat} {cJ : ClassId} {kc kt : Nat} {Nx : ZS → Prop} {o1 o2 o3 : Int32 × MS} (X : CallFix p m c cL_law 7 s #[Value.ref b] wsL_law RL)
    (hE : zE y (fun q => s.heap.size ≤ q) s s.heap) (hK : va_K D vwCl (zT y) s) (hKJ : va_K D vwCl [(cJ, .long)] s) (hy1 : y 50 ≤ y 52) (hy2 : s.heap.size = y 52 + 1) (hX : zX (fun q => s.heap.size ≤ q) s s.heap)
    (hf : g_X11_init 1 (zsNewO zSs 1 11 10) kc kt (fun _ S1 => Nx S1)) (hf1 : f_clearGame 0 mI0 mA0 = some o1) (hf2 : f_usual 0 o1.2.1 o1.2.2 = some o2) (hf3 : f_place 0 0 o2.2.1 o2.2.2 = some o3) (hcs : 28 + kc ≤ room_1.cells ∧ 213000 + kt ≤ room_1.slots)
    (kk : ∀ (h : Nat → Nat) (ob : Nat) (H : Heap) (locs : List Loc) (ls : Array Slot) (S1 : ZS) (F : Nat → Int64), Nx S1 → LH D y h ob cJ (fun q => s.heap.size ≤ q) s H locs o3.2.1 o3.2.2 (zsJ S1 27) F → lv_has ls 7 [(0, .ref b), (1, .ref (zh y 1)), (2, .ref (h 0)), (3, .ref ob), (4, .int (Int32.ofNat (4 * 0)))] → W p l e room_1 s m #[Value.ref b] below meth c H locs (28 + kc) (213000 + kt) Q (F0 m 23 ls [])) :
    W p l e room_1 s m #[Value.ref b] below meth c s.heap [] 0 0 Q (entryFrame m ([Value.ref b] : List Value).toArray 7) := by
  obtain ⟨hx, hb, hml, hown, hts⟩ := id X
  have hl := lv_entry [Value.ref b] (n := 7) (Nat.le_of_ble_eq_true rfl)
  rw [lg_entry_eq]
  replace hl := (lv_sub hl [0] rfl : lv_has _ 7 [(0, Value.ref b)])
  have hM : zH D y (fun q => s.heap.size ≤ q) s s.heap [] zSs := ⟨fun k q h => (by cases h), ⟨fun i j x z h => (by cases h), fun k q h => (by cases h)⟩, va_S.rf, hK, fun q hq => hq, hE, rfl, hy1, by decide, hy2, fun a ha => absurd (show 99 < 18 from ha) (by decide)⟩
  have hc1 : kc ≤ room_1.cells ∧ kt ≤ room_1.slots := by omega
  refine z_newO (k := 11) (C := RX11) (T := TX11) (N := 10) (fl := zf_11) X inlX11 tyX11_ok hM rfl zc_11 nw_L_8 zd_11 ⟨by omega, by omega⟩ dL_law_0 (fun q H hq hM => ?_)
  have hq1 : q = 1 := hq
  subst hq1
  refine lv_dup hx hb dL_law_3 rfl ?_
  refine z_wcallIv (mc := kc) (ms := kt) X hM (c_X11_init hf) gL_law_X11_init ii_L_59.1 ii_L_59.2.1 ii_L_59.2.2 rfl rfl ⟨rfl, rfl⟩ ⟨by omega, by omega⟩ hd_X11_init.2 ⟨Nat.le_of_ble_eq_true rfl, Nat.le_of_ble_eq_true rfl⟩ rfl hl.1 rfl (Nat.le_of_ble_eq_true rfl) dL_law_4 (fun S1 H locs hN hM => ?_)
  refine lv_astore_n (lv' := [(1, .ref (zh y 1)), (0, .ref b)]) hx hb dL_law_7 rfl hl (by decide) rfl (fun ls hl => ?_)
  refine L_newM X inlX12 nw_L_60 hM ⟨by omega, by omega⟩ dL_law_8 (fun q0 H1 hq0 hM1 hPq hz1 => ?_)
  refine lv_dup hx hb dL_law_11 rfl ?_
  have hlt : ∀ a ∈ zL S1, zh y a < q0 := fun a ha => by rw [hq0]; exact zH_lt hM ha
  have hqs : s.heap.size ≤ q0 := by rw [hq0]; exact hM.2.2.1.1
  refine L_minit (q0 := q0) X hM1 hPq hqs (fun a ha => Nat.ne_of_lt (hlt a ha)) (c_X12_init hf1 hf2 hf3) gL_law_X12_init ii_L_62 ⟨by omega, by omega⟩ ⟨Nat.le_of_ble_eq_true rfl, Nat.le_of_ble_eq_true rfl⟩ hl.1 (Nat.le_of_ble_eq_true rfl) dL_law_12 (fun h H2 locs2 hh hM2 hPm hDm hmn => ?_)
  rw [← hh]
  refine lv_astore_n (lv' := [(2, .ref (h 0)), (1, .ref (zh y 1)), (0, .ref b)]) hx hb dL_law_15 rfl hl (by decide) rfl (fun ls hl => ?_)
  refine lv_iconst (v := (1 : Int32)) hx hb dL_law_16 (by decide) ?_
  refine va_newaK (atype := .long) (n := 1) (N := 1) (h := H2.size) X.1 X.2.1 (X.2.2.2.2 _ ar_L) rfl dL_law_17 rfl (by decide) (by decide) (Nat.le_of_ble_eq_true rfl) (by omega) (by omega) rfl (fun H3 cA e1 z3 o3' hAr hNm => ?_)
  have e2 : va_RA s cJ .long := (hKJ.2 0 (cJ, .long) rfl).2
  have e3 : cA = cJ := Option.some.inj ((show s.vm.findClass _ = some cA from hNm).symm.trans e2)
  rw [e3] at e1
  have hS := hM2.2.2.1
  have hM3 := zH_J (j := 1) hM2 (fun a ha => o3' _ (zH_lt hM2 ha)) z3 ⟨Nat.le_trans hS.1 (by omega), fun x h1 h2 => (o3' x (Nat.lt_of_lt_of_le h1 hS.1)).trans (hS.2.1 x h1 h2), hS.2.2⟩
  have hPo : va_P D vwCl [(H2.size, oE cJ (fun _ => 0))] H3 := fun k x hx => by
    have hz : k < 1 := (List.getElem?_eq_some_iff.mp hx).1
    rw [show k = 0 by omega] at hx
    cases hx
    exact e1
  have hLH : LH D y h H2.size cJ (fun q => s.heap.size ≤ q) s H3 locs2 o3.2.1 o3.2.2 (zsJ S1 27) (fun _ => 0) := ⟨⟨hM3, hPo, ⟨hS.1, hKJ⟩, fun a ha => Nat.ne_of_lt (zH_lt hM2 ha), hX⟩, L_mkeep hPm (fun q hq => o3' _ (hmn q hq).1), hDm, fun q hq => ⟨Nat.ne_of_lt (hmn q hq).1, (hmn q hq).2⟩⟩
  refine lv_astore_n (lv' := [(3, .ref H2.size), (2, .ref (h 0)), (1, .ref (zh y 1)), (0, .ref b)]) hx hb dL_law_19 rfl hl (by decide) rfl (fun ls hl => ?_)
  refine lv_iconst (v := (0 : Int32)) hx hb dL_law_20 (by decide) ?_
  refine lv_istore (lv' := [(4, .int 0), (3, .ref H2.size), (2, .ref (h 0)), (1, .ref (zh y 1)), (0, .ref b)]) hx hb dL_law_21 hl (by decide) rfl (fun ls hl => ?_)
  refine W.widen (k := 28 + kc) (n := 213000 + kt) (by omega) (by omega) ?_
  exact kk h H2.size H3 locs2 ls S1 (fun _ => 0) hN hLH (lv_sub hl [4, 3, 2, 1, 0] rfl)
