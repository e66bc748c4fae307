theorem app_tree {A A' : Nat → Nat → Int32} {g node n : Nat} {mv : Int} {L : Nat → List Nat} {D : Nat → Nat} (hn : aK A g = n) (hb : TTb n (aP A g) (aM A g)) (hl : TTl n (aP A g) (aC A g) (aN A g) L) (hd : TTd n (aP A g) (aC A g) D) (q3 : apd A g node 6) (k7 : aK A' g = n + 1)
    (e8 : ∀ j, aP A' g j = if j = n + 1 then (node : Int) else aP A g j) (e9 : ∀ j, aM A' g j = if j = n + 1 then mv else aM A g j) (hmv : 0 ≤ mv) (e10 : ∀ j, aC A' g j = if j = n + 1 then -1 else if j = node ∧ L node = [] then ((n + 1 : Nat) : Int) else aC A g j)
    (e11a : L node = [] → ∀ j, aN A' g j = if j = n + 1 then -1 else aN A g j) (e11b : ∀ h : L node ≠ [], ∀ j, aN A' g j = if j = (L node).getLast h then ((n + 1 : Nat) : Int) else if j = n + 1 then -1 else aN A g j) : TRE A' g ∧ AP A A' g node (n + 1) := by
  have hnode : node ≤ n := by rw [← hn]; exact q3.1
  have hLC : L node = [] ↔ aC A g node < 0 := by
    have hc := (hl node hnode).1
    constructor
    · intro h; rw [h] at hc; have : aC A g node = -1 := hc; omega
    · intro h; exact chn_nil hc h
  have hdeep : D node + (if L node = [] then 0 else 1) ≤ 6 := by
    have h1 := q3.2 D (by rw [hn]; exact hd)
    by_cases h0 : L node = []
    · rw [if_pos (hLC.mp h0)] at h1; rw [if_pos h0]; omega
    · rw [if_neg (fun h => h0 (hLC.mpr h))] at h1; rw [if_neg h0]; omega
  have hlast : ∀ h : L node ≠ [], (L node).getLast h ≤ n := fun h => (((hl node hnode).2.2 _).mp (List.getLast_mem h)).2.1
  have eP : ∀ j, j ≤ n → aP A' g j = aP A g j := fun j hj => by rw [e8 j, if_neg (by omega)]
  have eP1 : aP A' g (n + 1) = (node : Int) := by rw [e8, if_pos rfl]
  have eC : ∀ j, j ≤ n → j ≠ node → aC A' g j = aC A g j := fun j hj hne => by rw [e10 j, if_neg (by omega), if_neg (fun h => hne h.1)]
  have eC0 : L node ≠ [] → aC A' g node = aC A g node := fun h => by rw [e10, if_neg (by omega), if_neg (fun h' => h h'.2)]
  have eC1 : L node = [] → aC A' g node = ((n + 1 : Nat) : Int) := fun h => by rw [e10, if_neg (by omega), if_pos ⟨rfl, h⟩]
  have eC2 : aC A' g (n + 1) = -1 := by rw [e10, if_pos rfl]
  have hTT : TT (n + 1) (aP A' g) (aM A' g) (aC A' g) (aN A' g) := by
    refine TT_app hb hl hd hnode hdeep eP eP1 (fun j hj => by rw [e9 j, if_neg (by omega)]) (by rw [e9, if_pos rfl]; exact hmv) eC eC0 eC1 eC2 (fun j hj hne => ?_) (fun h => ?_) ?_
    · by_cases h0 : L node = []
      · rw [e11a h0, if_neg (by omega)]
      · rw [e11b h0, if_neg (hne h0), if_neg (by omega)]
    · rw [e11b h, if_pos rfl]
    · by_cases h0 : L node = []
      · rw [e11a h0, if_pos rfl]
      · rw [e11b h0, if_neg (by have := hlast h0; omega), if_pos rfl]
  have hTd := TTd_app hb hl hd hnode hdeep eP eP1 eC eC0 eC1
  have hTd' : TTd (aK A' g) (aP A' g) (aC A' g) (fun j => if j = n + 1 then D node + (if L node = [] then 0 else 1) else D j) := by rw [k7]; exact hTd
  have hb' : TTb (aK A' g) (aP A' g) (aM A' g) := by rw [k7]; exact hTT.1
  refine ⟨by unfold TRE; rw [k7]; exact hTT, by rw [hn], by rw [hn]; exact k7, fun k d h => ?_, fun k hk hne h => ?_, by unfold leaf; rw [eC2]; decide, fun d h => ?_⟩
  · have hk : k ≤ n := by rw [← hn]; exact h.1
    refine ⟨by rw [k7]; omega, fun D2 hD2 => ?_⟩
    have h1 := TTd_u hb' hD2 hTd' k (by rw [k7]; omega)
    rw [h1, if_neg (by omega)]
    exact h.2 D (by rw [hn]; exact hd)
  · unfold leaf
    rw [eC k (by rw [← hn]; exact hk) hne]
    exact h
  · refine ⟨by rw [k7]; exact Nat.le_refl _, fun D2 hD2 => ?_⟩
    have h1 := TTd_u hb' hD2 hTd' (n + 1) (by rw [k7]; exact Nat.le_refl _)
    rw [h1, if_pos rfl]
    have h2 := h.2 D (by rw [hn]; exact hd)
    by_cases h0 : L node = []
    · rw [if_pos (hLC.mp h0)] at h2; rw [if_pos h0]; omega
    · rw [if_neg (fun h => h0 (hLC.mpr h))] at h2; rw [if_neg h0]; omega
theorem up_j {f : Nat → Int32} {g k j : Nat} {v : Int32} : (upd f (301 * g + k) v (301 * g + j)).toInt = if j = k then v.toInt else (f (301 * g + j)).toInt := by
  by_cases e : j = k
  · subst e; rw [upd_self, if_pos rfl]
  · rw [upd_ne (by omega), if_neg e]
theorem up_o {f : Nat → Int32} {g h k j : Nat} {v : Int32} (hk : k ≤ 300) (hj : j ≤ 300) (hne : h ≠ g) : upd f (301 * g + k) v (301 * h + j) = f (301 * h + j) := upd_ne (by
  intro e
  rcases Nat.lt_or_gt_of_ne hne with h1 | h1
  · have : 301 * h + 301 ≤ 301 * g := by omega
    omega
  · have : 301 * g + 301 ≤ 301 * h := by omega
    omega)
/-- the arrays of nodes of two games that agree on one of them -/
theorem TRE_oth {A A' : Nat → Nat → Int32} {h : Nat} (hA : TK A) (e7 : A' 7 h = A 7 h) (e8 : ∀ j, j ≤ 300 → A' 8 (301 * h + j) = A 8 (301 * h + j)) (e9 : ∀ j, j ≤ 300 → A' 9 (301 * h + j) = A 9 (301 * h + j)) (e10 : ∀ j, j ≤ 300 → A' 10 (301 * h + j) = A 10 (301 * h + j)) (e11 : ∀ j, j ≤ 300 → A' 11 (301 * h + j) = A 11 (301 * h + j)) (ht : TRE A h) : TRE A' h := by
  have hk := aK_le (g := h) hA
  have a : aK A' h = aK A h := by unfold aK; rw [e7]
  unfold TRE
  rw [a]
  refine TT_congr ht (fun k hk' => ⟨?_, ?_, ?_, ?_⟩)
  · unfold aP; rw [e8 k (by omega)]
  · unfold aM; rw [e9 k (by omega)]
  · unfold aC; rw [e10 k (by omega)]
  · unfold aN; rw [e11 k (by omega)]
def cNd (A : Nat → Nat → Int32) (i : Nat) : Nat → Nat → Int32 := va_up (va_up (va_up (va_up A 10 (upd (A 10) i (-1))) 11 (upd (A 11) i (-1))) 12 (upd (A 12) i 0)) 14 (upd (A 14) i 0)
theorem clearNode_eq {I : Nat → Int32} {A : Nat → Nat → Int32} {x1 : Int32} (h : (0 : Int) ≤ x1.toInt ∧ x1.toInt ≤ (601 : Int)) : f_clearNode x1 I A = some (0, (I, cNd A x1.toNatClampNeg)) := by
  have hc : ¬ (x1 < 0 ∨ 602 ≤ x1.toNatClampNeg) := ti_in (by omega) (by omega)
  show f_clearNode_0 x1 I A = _
  unfold f_clearNode_0
  have e : ∀ {β : Type} {k : Option β}, m_chk (¬ (x1 < 0 ∨ 602 ≤ x1.toNatClampNeg)) k = k := fun {β} {k} => if_pos hc
  rw [e, m_bnd, e, m_bnd, e, m_bnd, e, m_bnd]
  rfl
theorem tk_cNd {A : Nat → Nat → Int32} {i : Nat} (h : TK A) : TK (cNd A i) := by
  unfold cNd
  refine tk_x (tk_x (tk_x (tk_x h (fun j => ?_)) (fun j => ?_)) (fun j => ?_)) (fun j => ?_)
  · by_cases e : j = i
    · rw [e, upd_self]; exact ⟨show (-1 : Int) ≤ (-1 : Int32).toInt by decide, show (-1 : Int32).toInt ≤ (300 : Int) by decide⟩
    · rw [upd_ne e]; exact h 10 j
  · by_cases e : j = i
    · rw [e, upd_self]; exact ⟨show (-1 : Int) ≤ (-1 : Int32).toInt by decide, show (-1 : Int32).toInt ≤ (300 : Int) by decide⟩
    · rw [upd_ne e]; exact h 11 j
  · by_cases e : j = i
    · rw [e, upd_self]; exact ⟨show (0 : Int) ≤ (0 : Int32).toInt by decide, show (0 : Int32).toInt ≤ (4 : Int) by decide⟩
    · rw [upd_ne e]; exact h 12 j
  · by_cases e : j = i
    · rw [e, upd_self]; exact ⟨show (0 : Int) ≤ (0 : Int32).toInt by decide, show (0 : Int32).toInt ≤ (200 : Int) by decide⟩
    · rw [upd_ne e]; exact h 14 j
theorem t_append {gg : Nat} {I : Nat → Int32} {A : Nat → Nat → Int32} {x1 x2 x3 : Int32} (hI : TJ I) (hA : TK A) (r_x1 : (0 : Int) ≤ x1.toInt ∧ x1.toInt ≤ (1 : Int)) (r_x2 : (0 : Int) ≤ x2.toInt ∧ x2.toInt ≤ (300 : Int)) (r_x3 : (0 : Int) ≤ x3.toInt ∧ x3.toInt ≤ (24575 : Int)) (q0 : TRE A gg) (q1 : x1.toInt = (gg : Int)) (q2 : (aK A gg : Int) ≤ 299) (q3 : apd A gg x2.toInt.toNat 6) : Ok (f_append x1 x2 x3 I A) (fun o => TJ o.2.1 ∧ TK o.2.2 ∧ ((1 : Int) ≤ o.1.toInt ∧ o.1.toInt ≤ (300 : Int)) ∧ (TRE o.2.2 gg) ∧ (∀ hh nb : Nat, hh ≤ 1 → hh ≠ gg → TRH A hh nb → TRH o.2.2 hh nb) ∧ (AP A o.2.2 gg x2.toInt.toNat o.1.toInt.toNat) ∧ (m3 o.2.2 x1.toInt o.1.toInt)) := by
  obtain ⟨hb, L, D, hl, hd⟩ := q0
  have hg : gg ≤ 1 := by omega
  have hix : x1.toNatClampNeg = gg := by have := ti_nc (a := x1) (by omega); omega
  have hnode := q3.1
  have hcx : ¬ (x1 < 0 ∨ 2 ≤ x1.toNatClampNeg) := ti_in (by omega) (by omega)
  have hk7 := tA_7 hA gg
  have hkk : ((aK A gg : Nat) : Int) = (A 7 gg).toInt := by unfold aK; omega
  show Ok (f_append_0 x1 x2 x3 I A) _
  unfold f_append_0
  refine ok_chk hcx ?_
  refine ok_bnd (fun v1 e1 => ?_)
  rw [hix] at e1
  refine ok_bnd (fun v2 e2 => ?_)
  have t2 : v2.toInt = ((aK A gg : Nat) : Int) + 1 := ti_add e2 (by rw [e1]; exact hkk.symm) (show (1 : Int32).toInt = 1 from rfl) (by omega) (by omega)
  refine ok_chk hcx ?_
  refine ok_bnd (fun A3 e3 => ?_)
  rw [hix] at e3
  have hA3 : TK A3 := e3.symm ▸ tk_u hA (j := 7) (show (0 : Int) ≤ v2.toInt by omega) (show v2.toInt ≤ (300 : Int) by omega)
  refine ok_chk hcx ?_
  refine ok_bnd (fun v4 e4 => ?_)
  have e4' : v4 = v2 := by rw [e4, e3, hix, va_up_self, upd_self]
  subst e4'
  clear e4
  refine ok_bnd (fun v5 e5 => ?_)
  have t5 := ti_mul e5 (show (301 : Int32).toInt = 301 from rfl) q1 (by omega) (by omega)
  refine ok_bnd (fun v6 e6 => ?_)
  have t6 := ti_add e6 t5 t2 (by omega) (by omega)
  have i6 : v6.toNatClampNeg = 301 * gg + (aK A gg + 1) := by have := ti_nc (a := v6) (by omega); omega
  refine ok_clR (clearNode_eq (by omega)) ?_
  rw [i6]
  have hA7 := tk_cNd (i := 301 * gg + (aK A gg + 1)) hA3
  refine ok_bnd (fun v8 e8 => ?_)
  have t8 := ti_mul e8 (show (301 : Int32).toInt = 301 from rfl) q1 (by omega) (by omega)
  refine ok_bnd (fun v9 e9 => ?_)
  have t9 := ti_add e9 t8 t2 (by omega) (by omega)
  have i9 : v9.toNatClampNeg = 301 * gg + (aK A gg + 1) := by have := ti_nc (a := v9) (by omega); omega
  refine ok_chk (ti_in (by omega) (by omega)) ?_
  refine ok_bnd (fun A10 e10 => ?_)
  rw [i9] at e10
  have hA10 : TK A10 := e10.symm ▸ tk_u hA7 (j := 8) (show (-1 : Int) ≤ x2.toInt by omega) (show x2.toInt ≤ (300 : Int) by omega)
  refine ok_bnd (fun v11 e11 => ?_)
  have t11 := ti_mul e11 (show (301 : Int32).toInt = 301 from rfl) q1 (by omega) (by omega)
  refine ok_bnd (fun v12 e12 => ?_)
  have t12 := ti_add e12 t11 t2 (by omega) (by omega)
  have i12 : v12.toNatClampNeg = 301 * gg + (aK A gg + 1) := by have := ti_nc (a := v12) (by omega); omega
  refine ok_chk (ti_in (by omega) (by omega)) ?_
  refine ok_bnd (fun A13 e13 => ?_)
  rw [i12] at e13
  have hA13 : TK A13 := e13.symm ▸ tk_u hA10 (j := 9) (show (-1 : Int) ≤ x3.toInt by omega) (show x3.toInt ≤ (24575 : Int) by omega)
  have s7 : A13 7 = upd (A 7) gg v4 := by rw [e13, e10, e3]; rfl
  have s8 : A13 8 = upd (A 8) (301 * gg + (aK A gg + 1)) x2 := by rw [e13, e10, e3]; rfl
  have s9 : A13 9 = upd (A 9) (301 * gg + (aK A gg + 1)) x3 := by rw [e13, e10, e3]; rfl
  have s10 : A13 10 = upd (A 10) (301 * gg + (aK A gg + 1)) (-1) := by rw [e13, e10, e3]; rfl
  have s11 : A13 11 = upd (A 11) (301 * gg + (aK A gg + 1)) (-1) := by rw [e13, e10, e3]; rfl
  have s12 : A13 12 = upd (A 12) (301 * gg + (aK A gg + 1)) 0 := by rw [e13, e10, e3]; rfl
  clear e13 e10 e3
  refine ok_bnd (fun v14 e14 => ?_)
  have t14 := ti_mul e14 (show (301 : Int32).toInt = 301 from rfl) q1 (by omega) (by omega)
  refine ok_bnd (fun v15 e15 => ?_)
  have t15 := ti_add e15 t14 rfl (by omega) (by omega)
  have i15 : v15.toNatClampNeg = 301 * gg + x2.toInt.toNat := by have := ti_nc (a := v15) (by omega); omega
  refine ok_chk (ti_in (by omega) (by omega)) ?_
  refine ok_bnd (fun v16 e16 => ?_)
  have w16 : v16.toInt = aC A gg x2.toInt.toNat := by
    rw [e16, i15, s10, upd_ne (by omega)]; rfl
  have hc := (hl _ hnode).1
  have n1 : (-1 : Int32).toInt = -1 := rfl
  have hr4 : v4.toInt.toNat = aK A gg + 1 := by omega
  have hx2 : ((x2.toInt.toNat : Nat) : Int) = x2.toInt := by omega
  have hk4 : aK A gg + 1 ≤ 300 := by omega
  have fin : ∀ A' : Nat → Nat → Int32, TK A' → A' 7 = A13 7 → A' 8 = A13 8 → A' 9 = A13 9 → A' 12 = A13 12 → (∀ hh : Nat, hh ≤ 1 → hh ≠ gg → ∀ j, j ≤ 300 → A' 10 (301 * hh + j) = A 10 (301 * hh + j) ∧ A' 11 (301 * hh + j) = A 11 (301 * hh + j)) →
      (∀ j, aC A' gg j = if j = aK A gg + 1 then -1 else if j = x2.toInt.toNat ∧ L x2.toInt.toNat = [] then ((aK A gg + 1 : Nat) : Int) else aC A gg j) → (L x2.toInt.toNat = [] → ∀ j, aN A' gg j = if j = aK A gg + 1 then -1 else aN A gg j) → (∀ h : L x2.toInt.toNat ≠ [], ∀ j, aN A' gg j = if j = (L x2.toInt.toNat).getLast h then ((aK A gg + 1 : Nat) : Int) else if j = aK A gg + 1 then -1 else aN A gg j) →
      TJ I ∧ TK A' ∧ ((1 : Int) ≤ v4.toInt ∧ v4.toInt ≤ (300 : Int)) ∧ TRE A' gg ∧ (∀ hh nb : Nat, hh ≤ 1 → hh ≠ gg → TRH A hh nb → TRH A' hh nb) ∧ AP A A' gg x2.toInt.toNat v4.toInt.toNat ∧ m3 A' x1.toInt v4.toInt := by
    intro A' hA' f7 f8 f9 f12 foth fC fNa fNb
    have hK' : aK A' gg = aK A gg + 1 := by
      show (A' 7 gg).toInt.toNat = _
      rw [f7, s7, upd_self]; exact hr4
    have key := app_tree (A := A) (A' := A') (g := gg) (node := x2.toInt.toNat) (n := aK A gg) (mv := x3.toInt) rfl hb hl hd q3 hK' (fun j => by
        show (A' 8 (301 * gg + j)).toInt = _
        rw [f8, s8, up_j, hx2]; rfl) (fun j => by
        show (A' 9 (301 * gg + j)).toInt = _
        rw [f9, s9, up_j]; rfl) r_x3.1 fC fNa fNb
    refine ⟨hI, hA', by omega, key.1, fun hh nb h1 h2 h3 => ?_, by rw [hr4]; exact key.2, ?_⟩
    · refine ⟨TRE_oth hA (by rw [f7, s7, upd_ne h2]) (fun j hj => by rw [f8, s8, up_o hk4 hj h2]) (fun j hj => by rw [f9, s9, up_o hk4 hj h2]) (fun j hj => (foth hh h1 h2 j hj).1) (fun j hj => (foth hh h1 h2 j hj).2) h3.1, by unfold aK; rw [f7, s7, upd_ne h2]; exact h3.2⟩
    · show (A' 12 (301 * x1.toInt + v4.toInt).toNat).toInt ≤ 3
      rw [f12, s12, show (301 * x1.toInt + v4.toInt).toNat = 301 * gg + (aK A gg + 1) by omega, upd_self]
      decide
  refine ok_if (fun c => ?_) (fun c => ?_)
  · replace c := ti_leP c (show (0 : Int32).toInt = 0 from rfl) rfl
    have hne : L x2.toInt.toNat ≠ [] := fun h => by rw [h] at hc; have : aC A gg x2.toInt.toNat = -1 := hc; omega
    have hmem : ∀ k ∈ L x2.toInt.toNat, 1 ≤ k ∧ k ≤ aK A gg := fun k hk => by have := ((hl _ hnode).2.2 k).mp hk; omega
    have hlen := chn_len hl hnode
    have hlast := hmem _ (List.getLast_mem hne)
    have hc13 : chn (aN A13 gg) (L x2.toInt.toNat) v16.toInt := by
      rw [w16]
      refine chn_congr (fun k hk => ?_) hc
      have := hmem k hk
      show (A13 11 (301 * gg + k)).toInt = _
      rw [s11, upd_ne (by omega)]; rfl
    have hrun := t_append_94 (I := I) (A := A13) hg (L x2.toInt.toNat) hne mFuel x1 v4 v16 q1 (fun k hk => by have := hmem k hk; omega) hc13 (by show _ < 200000; omega)
    refine ⟨_, hrun, ?_⟩
    refine fin (va_up A13 11 (upd (A13 11) (301 * gg + (L x2.toInt.toNat).getLast hne) v4)) (tk_u hA13 (j := 11) (show (-1 : Int) ≤ v4.toInt by omega) (show v4.toInt ≤ (300 : Int) by omega)) (va_up_ne _ _ (by decide)) (va_up_ne _ _ (by decide)) (va_up_ne _ _ (by decide)) (va_up_ne _ _ (by decide)) (fun hh h1 h2 j hj => ?_) (fun j => ?_) (fun h => absurd h hne) (fun _ j => ?_)
    · rw [va_up_ne _ _ (by decide), va_up_self, s10, s11, up_o hk4 hj h2, up_o (by omega) hj h2, up_o hk4 hj h2]
      exact ⟨rfl, rfl⟩
    · show (va_up A13 11 _ 10 (301 * gg + j)).toInt = _
      rw [va_up_ne _ _ (by decide), s10, up_j, n1, if_neg (fun h : j = x2.toInt.toNat ∧ L x2.toInt.toNat = [] => hne h.2)]; rfl
    · show (va_up A13 11 _ 11 (301 * gg + j)).toInt = _
      rw [va_up_self, up_j, s11, up_j, n1, t2]; rfl
  · replace c := ti_leN c (show (0 : Int32).toInt = 0 from rfl) rfl
    have h0 : L x2.toInt.toNat = [] := chn_nil hc (by omega)
    refine ok_bnd (fun v17 e17 => ?_)
    have t17 := ti_mul e17 (show (301 : Int32).toInt = 301 from rfl) q1 (by omega) (by omega)
    refine ok_bnd (fun v18 e18 => ?_)
    have t18 := ti_add e18 t17 rfl (by omega) (by omega)
    have i18 : v18.toNatClampNeg = 301 * gg + x2.toInt.toNat := by have := ti_nc (a := v18) (by omega); omega
    refine ok_chk (ti_in (by omega) (by omega)) ?_
    refine ok_bnd (fun A19 e19 => ?_)
    rw [i18] at e19
    refine ok_ret ?_
    refine fin A19 (e19.symm ▸ tk_u hA13 (j := 10) (show (-1 : Int) ≤ v4.toInt by omega) (show v4.toInt ≤ (300 : Int) by omega)) (by rw [e19]; exact va_up_ne _ _ (by decide)) (by rw [e19]; exact va_up_ne _ _ (by decide)) (by rw [e19]; exact va_up_ne _ _ (by decide)) (by rw [e19]; exact va_up_ne _ _ (by decide)) (fun hh h1 h2 j hj => ?_) (fun j => ?_) (fun _ j => ?_) (fun h => absurd h0 h)
    · rw [e19, va_up_self, va_up_ne _ _ (by decide), s10, s11, up_o (by omega) hj h2, up_o hk4 hj h2, up_o hk4 hj h2]
      exact ⟨rfl, rfl⟩
    · show (A19 10 (301 * gg + j)).toInt = _
      rw [e19, va_up_self, up_j, s10, up_j, n1, t2]
      by_cases e1 : j = x2.toInt.toNat
      · rw [if_pos e1, if_neg (by omega), if_pos ⟨e1, h0⟩]; rfl
      · rw [if_neg e1, if_neg (fun h : j = x2.toInt.toNat ∧ L x2.toInt.toNat = [] => e1 h.1)]; rfl
    · show (A19 11 (301 * gg + j)).toInt = _
      rw [e19, va_up_ne _ _ (by decide), s11, up_j, n1]; rfl
