/-- a position: men, side, rights, passed square, kings, number -/
noncomputable abbrev PO : Type := (Int → Int) × Int × Int × Int × Int × Int × Int
noncomputable def om (P : PO) : Int → Int := P.1
noncomputable def osd (P : PO) : Int := P.2.1
noncomputable def ort (P : PO) : Int := P.2.2.1
noncomputable def ops (P : PO) : Int := P.2.2.2.1
noncomputable def okw (P : PO) : Int := P.2.2.2.2.1
noncomputable def okb (P : PO) : Int := P.2.2.2.2.2.1
noncomputable def onb (P : PO) : Int := P.2.2.2.2.2.2
noncomputable def oko (P : PO) : Int := if osd P = 0 then okw P else okb P
/-- the position behind a move -/
noncomputable def afO (P : PO) (x : Int) : PO := (afM (om P) (osd P) (ops P) x, 1 - osd P, afR (ort P) x, afP (om P) (osd P) (ops P) x, afK (om P) (osd P) (ops P) x 0 (okw P), afK (om P) (osd P) (ops P) x 1 (okb P), onb P + osd P)
noncomputable def PGd (P : PO) : Prop := POS (om P) (osd P) (ort P) (ops P) (okw P) (okb P)
noncomputable def LGo (P : PO) (x : Int) : Prop := LGx (om P) (osd P) (ort P) (ops P) (oko P) x
theorem pgd_af {P : PO} {x : Int} (h : PGd P) (hL : LGo P x) : PGd (afO P x) := pos_af h rfl hL
/-- a board of the class holds a position -/
noncomputable def BO (S : ZS) (b : Nat) (P : PO) : Prop := (zK S b = 0 ∧ zP S 0 b = some (b + 1) ∧ zK S (b + 1) = 14) ∧ mCb S b = om P ∧ (zI S 3 b).toInt = osd P ∧ (zI S 4 b).toInt = ort P ∧ (zI S 5 b).toInt = ops P ∧ (zI S 1 b).toInt = okw P ∧ (zI S 2 b).toInt = okb P ∧ (zI S 6 b).toInt = onb P
section BOS
variable {S S' : ZS} {b c : Nat} {P : PO} {o : Int32 × ZS} {x : Int32} {W : Nat → Prop}
theorem bo_e (h : BO S b P) (e : EQc S S' b) (e1 : EQc S S' (b + 1)) : BO S' b P := by
  obtain ⟨⟨k0, p0, k1⟩, hm, h3, h4, h5, h1, h2, h6⟩ := h
  refine ⟨⟨e.1.trans k0, (e.2.2.2.1 0).trans p0, e1.1.trans k1⟩, by rw [eqc_mB e e1 p0 k1]; exact hm, ?_, ?_, ?_, ?_, ?_, ?_⟩ <;> rw [e.2.2.1] <;> assumption
theorem bo_fr (h : BO S b P) (hF : FR W S S') (h1 : ¬ W b) (h2 : ¬ W (b + 1)) : BO S' b P := bo_e h (fr_e hF (by rw [h.1.1]; decide) h1) (fr_e hF (by rw [h.1.2.2]; decide) h2)
theorem bo_play (hT : ZT S) (h : BO S b P) (hG : PGd P) (hx : LGo P x.toInt) (hn : 0 ≤ onb P ∧ onb P ≤ 99999) (hf : f_X0_play b x S = some o) : ZT o.2 ∧ FR (fun a => a = b ∨ a = b + 1) S o.2 ∧ BO o.2 b (afO P x.toInt) := by
  obtain ⟨⟨k0, p0, k1⟩, hm, h3, h4, h5, h1, h2, h6⟩ := h
  have hs := hG.1
  obtain ⟨a1, a2, -, a4, a5, a6, a7, a8, a9, a10⟩ := p_aft hT k0 p0 (by unfold BN; omega) (by omega) hm hG.2.1 h3 h4 h5 h1 h2 hx.1 hf
  have F := fr_b hT k1 a2
  exact ⟨a1, F, ⟨(fr_k F (by rw [k0]; decide)).trans k0, ((F b (by rw [k0]; decide)).1.2.2.1 (by rw [k0]; rfl) 0).trans p0, (fr_k F (by rw [k1]; decide)).trans k1⟩, a4, a5, a6, a7, a8, a9, by rw [a10, h6]; rfl⟩
theorem bo_copy (hT : ZT S) (k0 : zK S b = 0) (p0 : zP S 0 b = some (b + 1)) (k1 : zK S (b + 1) = 14) (h : BO S c P) (hf : f_X0_copyFrom b c S = some o) : ZT o.2 ∧ FR (fun a => a = b ∨ a = b + 1) S o.2 ∧ BO o.2 b P := by
  obtain ⟨⟨c0, q0, c1⟩, hm, h3, h4, h5, h1, h2, h6⟩ := h
  have T2 : ZT o.2 := (ok_of (t_f_X0_copyFrom (SZ := S) hT (a7_0 S) k0 c0) hf).1
  obtain ⟨a1, a2, a3⟩ := p_copy p0 q0 hf
  have F := fr_b hT k1 a1
  refine ⟨T2, F, ⟨(fr_k F (by rw [k0]; decide)).trans k0, ((F b (by rw [k0]; decide)).1.2.2.1 (by rw [k0]; rfl) 0).trans p0, (fr_k F (by rw [k1]; decide)).trans k1⟩, a2.trans hm, ?_, ?_, ?_, ?_, ?_, ?_⟩
  · rw [a3 3 (by decide) (by decide)]; exact h3
  · rw [a3 4 (by decide) (by decide)]; exact h4
  · rw [a3 5 (by decide) (by decide)]; exact h5
  · rw [a3 1 (by decide) (by decide)]; exact h1
  · rw [a3 2 (by decide) (by decide)]; exact h2
  · rw [a3 6 (by decide) (by decide)]; exact h6
end BOS
/-- the reference holds a position -/
noncomputable def RPp (I : Nat → Int32) (A : Nat → Nat → Int32) (P : PO) : Prop := (TJ I ∧ TK A) ∧ mR A = om P ∧ (I 25).toInt = osd P ∧ (I 26).toInt = ort P ∧ (I 27).toInt = ops P ∧ (I 29).toInt = onb P
theorem rp_make {I : Nat → Int32} {A : Nat → Nat → Int32} {P : PO} {x1 : Int32} {o : Int32 × MS} (h : RPp I A P) (hG : PGd P) (hL : LGo P x1.toInt) (hn : onb P ≤ 1998) (hf : f_make x1 I A = some o) : RPp o.2.1 o.2.2 (afO P x1.toInt) ∧ (∀ j, j ∉ [25, 26, 27, 28, 29] → o.2.1 j = I j) ∧ ∀ j, j ≠ 24 → o.2.2 j = A j := by
  obtain ⟨⟨hI, hA⟩, hm, h25, h26, h27, h29⟩ := h
  obtain ⟨hx, hr, hp, hsf⟩ := hL
  have hs := hG.1
  have hp0 : 0 ≤ x1.toInt / 4096 := by omega
  have e1 : mkR (om P) (osd P) (x1.toInt % 64) (x1.toInt / 64 % 64) (x1.toInt / 4096) = afM (om P) (osd P) (ops P) x1.toInt := mk_pl hs (by omega) (by omega) hp0 hG.2.2.2.2.1 hr
  obtain ⟨I2t, A2t, m2, r26, q27, q29, q25⟩ := ok_of (x_make (nn := (I 29).toInt) (sd := osd P) (TM := afM (om P) (osd P) (ops P) x1.toInt) (TP := psF (afM (om P) (osd P) (ops P) x1.toInt) (osd P) (pwb (om P) (x1.toInt % 64)) (x1.toInt % 64) (x1.toInt / 64 % 64)) (r0 := I 26) hI hA hx (by rw [hm]; exact hG.2.1) rfl rfl (by rw [hm]) (by rw [hm, e1]) ⟨rfl, by omega, h25⟩) hf
  have eP : (o.2.1 27).toInt = afP (om P) (osd P) (ops P) x1.toInt := by
    rw [q27]
    refine ps_pl hs (by omega) (by omega) (fun h1 h2 => ?_)
    have hw1 : om P (x1.toInt % 64) % 8 = 1 := by
      unfold pwb at h1
      by_cases e : om P (x1.toInt % 64) % 8 = 1
      · exact e
      · rw [if_neg e] at h1; omega
    have hw : pwn (om P) (osd P) (ops P) (x1.toInt % 64) (x1.toInt / 64 % 64) := hr.2.2.elim (fun z => z.2) (fun z => absurd hw1 z.1)
    rcases pwn_3 hw with w | w | w
    · exfalso; rcases hs with h | h <;> rw [h] at w <;> omega
    · exact w.1
    · exfalso; rcases hs with h | h <;> rw [h] at w <;> omega
  have eR : (o.2.1 26).toInt = afR (ort P) x1.toInt := by
    rw [r26, rt_ref (by rw [h26]; exact hG.2.2.2.2.2.2.1)]
    unfold afR
    rw [i32_of h26]
  exact ⟨⟨⟨I2t, A2t⟩, m2, q25, eR, eP, by rw [q29, h29]; rfl⟩, fun j hj => (fw_make hf).1 j hj, fun j hj => (fw_make hf).2 j (by simpa using hj)⟩
/-- the way from a node back to the beginning -/
noncomputable def ancL (P : Nat → Int) : Nat → Nat → List Nat
  | 0, _ => []
  | f + 1, k => if k = 0 then [] else k :: ancL P f (P k).toNat
noncomputable def posL (st : PO) (M : Nat → Int) : List Nat → PO
  | [] => st
  | k :: l => afO (posL st M l) (M k)
/-- the position behind a node -/
noncomputable def posT (st : PO) (T : TRa) (k : Nat) : PO := posL st (tM T) (ancL (tP T) k k)
section ANC
variable {T : TRa} {st : PO}
theorem anc_f (hw : WT T) : ∀ (f k : Nat), k ≤ tn T → k ≤ f → ancL (tP T) f k = ancL (tP T) k k := by
  intro f
  induction f using Nat.strongRecOn with
  | ind f ih =>
    intro k hk hkf
    cases f with
    | zero =>
      have : k = 0 := by omega
      subst this; rfl
    | succ f =>
      cases k with
      | zero => rfl
      | succ k =>
        have hb := (hw.2.1 (k + 1) (by omega) hk).1
        show (if k + 1 = 0 then [] else (k + 1) :: ancL (tP T) f (tP T (k + 1)).toNat) = (if k + 1 = 0 then [] else (k + 1) :: ancL (tP T) k (tP T (k + 1)).toNat)
        rw [if_neg (by omega), if_neg (by omega), ih f (by omega) _ (by omega) (by omega)]
        by_cases e : k = f
        · subst e
          rw [ih k (by omega) _ (by omega) (by omega)]
        · rw [ih k (by omega) _ (by omega) (by omega)]
theorem anc_s (hw : WT T) {k : Nat} (h1 : 1 ≤ k) (hk : k ≤ tn T) : ancL (tP T) k k = k :: ancL (tP T) (tP T k).toNat (tP T k).toNat := by
  obtain ⟨f, rfl⟩ : ∃ f, k = f + 1 := ⟨k - 1, by omega⟩
  have hb := (hw.2.1 (f + 1) (by omega) hk).1
  show (if f + 1 = 0 then [] else (f + 1) :: ancL (tP T) f (tP T (f + 1)).toNat) = _
  rw [if_neg (by omega), anc_f hw f _ (by omega) (by omega)]
theorem posT_0 : posT st T 0 = st := rfl
theorem posT_s (hw : WT T) {k : Nat} (h1 : 1 ≤ k) (hk : k ≤ tn T) : posT st T k = afO (posT st T (tP T k).toNat) (tM T k) := by
  unfold posT
  rw [anc_s hw h1 hk]
  rfl
/-- each element's rest is the way back of its parent -/
noncomputable def AN (T : TRa) : List Nat → Prop
  | [] => True
  | k :: l => (1 ≤ k ∧ k ≤ tn T) ∧ l = ancL (tP T) (tP T k).toNat (tP T k).toNat ∧ AN T l
theorem an_anc (hw : WT T) : ∀ k, k ≤ tn T → AN T (ancL (tP T) k k) := by
  intro k
  induction k using Nat.strongRecOn with
  | ind k ih =>
    intro hk
    by_cases e : k = 0
    · subst e; trivial
    · rw [anc_s hw (by omega) hk]
      have hb := (hw.2.1 k (by omega) hk).1
      exact ⟨⟨by omega, hk⟩, rfl, ih _ (by omega) (by omega)⟩
theorem an_drop : ∀ (i : Nat) (l : List Nat), AN T l → AN T (l.drop i)
  | 0, _, h => h
  | _ + 1, [], _ => trivial
  | i + 1, _ :: l, h => an_drop i l h.2.2
/-- all moves of a tree are legal -/
noncomputable def LTr (st : PO) (T : TRa) : Prop := PGd st ∧ (1 ≤ onb st ∧ onb st ≤ 999) ∧ ∀ k, 1 ≤ k → k ≤ tn T → LGo (posT st T (tP T k).toNat) (tM T k)
theorem lt_pg (hw : WT T) (h : LTr st T) : ∀ k, k ≤ tn T → PGd (posT st T k) ∧ 1 ≤ onb (posT st T k) ∧ onb (posT st T k) ≤ 999 + (k : Int) := by
  intro k
  induction k using Nat.strongRecOn with
  | ind k ih =>
    intro hk
    by_cases e : k = 0
    · subst e
      rw [posT_0]
      exact ⟨h.1, h.2.1.1, by have := h.2.1.2; omega⟩
    · have hb := (hw.2.1 k (by omega) hk).1
      obtain ⟨a1, a2, a3⟩ := ih (tP T k).toNat (by omega) (by omega)
      rw [posT_s hw (by omega) hk]
      refine ⟨pgd_af a1 (h.2.2 k (by omega) hk), ?_⟩
      have hs := a1.1
      show 1 ≤ onb (posT st T (tP T k).toNat) + osd (posT st T (tP T k).toNat) ∧ onb (posT st T (tP T k).toNat) + osd (posT st T (tP T k).toNat) ≤ 999 + (k : Int)
      omega
theorem anc_c {P Q : Nat → Int} {n : Nat} (hP : ∀ k, 1 ≤ k → k ≤ n → 0 ≤ P k ∧ P k < (k : Int)) (h : ∀ k, k ≤ n → Q k = P k) : ∀ (f k : Nat), k ≤ n → ancL Q f k = ancL P f k
  | 0, _, _ => rfl
  | f + 1, k, hk => by
    show (if k = 0 then [] else k :: ancL Q f (Q k).toNat) = (if k = 0 then [] else k :: ancL P f (P k).toNat)
    by_cases e : k = 0
    · rw [if_pos e, if_pos e]
    · have := hP k (by omega) hk
      rw [if_neg e, if_neg e, h k hk, anc_c hP h f _ (by omega)]
theorem anc_m {P : Nat → Int} {n : Nat} (hP : ∀ k, 1 ≤ k → k ≤ n → 0 ≤ P k ∧ P k < (k : Int)) : ∀ (f k : Nat), k ≤ n → ∀ j ∈ ancL P f k, j ≤ n
  | 0, _, _, _, hj => by cases hj
  | f + 1, k, hk, j, hj => by
    by_cases e : k = 0
    · have : ancL P (f + 1) k = [] := if_pos e
      rw [this] at hj; cases hj
    · have e2 : ancL P (f + 1) k = k :: ancL P f (P k).toNat := if_neg e
      rw [e2] at hj
      have := hP k (by omega) hk
      rcases List.mem_cons.1 hj with hj | hj
      · omega
      · exact anc_m hP f _ (by omega) j hj
theorem posL_c {M M' : Nat → Int} : ∀ (l : List Nat), (∀ k ∈ l, M' k = M k) → posL st M' l = posL st M l
  | [], _ => rfl
  | k :: l, h => by
    show afO (posL st M' l) (M' k) = afO (posL st M l) (M k)
    rw [posL_c l (fun j hj => h j (List.mem_cons_of_mem _ hj)), h k List.mem_cons_self]
theorem posT_c {T' : TRa} (hw : WT T) (hP : ∀ k, k ≤ tn T → tP T' k = tP T k) (hM : ∀ k, k ≤ tn T → tM T' k = tM T k) {k : Nat} (hk : k ≤ tn T) : posT st T' k = posT st T k := by
  have hb := fun k h1 h2 => (hw.2.1 k h1 h2).1
  unfold posT
  rw [anc_c hb hP k k hk]
  exact posL_c _ (fun j hj => hM j (anc_m hb k k hk j hj))
theorem posT_gr {p k : Nat} {m : Int} (hw : WT T) (hk : k ≤ tn T) : posT st (grT T p m) k = posT st T k := posT_c hw (fun j hj => by show (if j = tn T + 1 then (p : Int) else tP T j) = _; rw [if_neg (by omega)]) (fun j hj => by show (if j = tn T + 1 then m else tM T j) = _; rw [if_neg (by omega)]) hk
theorem wt_gr {p : Nat} {m : Int} (hw : WT T) (hp : p ≤ tn T) (hn : tn T < 300) (hm : 0 ≤ m ∧ m ≤ 24575) : WT (grT T p m) := by
  obtain ⟨h1, h2, h3, h4, h5⟩ := hw
  refine ⟨by show tn T + 1 ≤ 300; omega, fun k k1 k2 => ?_, fun k => ?_, ?_, ?_⟩
  · have k2' : k ≤ tn T + 1 := k2
    show (0 ≤ (if k = tn T + 1 then (p : Int) else tP T k) ∧ (if k = tn T + 1 then (p : Int) else tP T k) < (k : Int)) ∧ 0 ≤ (if k = tn T + 1 then m else tM T k) ∧ (if k = tn T + 1 then m else tM T k) ≤ 24575
    by_cases e : k = tn T + 1
    · rw [if_pos e, if_pos e]; omega
    · rw [if_neg e, if_neg e]; exact h2 k k1 (by omega)
  · show (if k = tn T + 1 then [] else tR T k).length ≤ 200 ∧ (if k = tn T + 1 then [] else tK T k).length ≤ 4
    by_cases e : k = tn T + 1
    · rw [if_pos e, if_pos e]; decide
    · rw [if_neg e, if_neg e]; exact h3 k
  · show (if 0 = tn T + 1 then (p : Int) else tP T 0) = -1
    rw [if_neg (by omega)]; exact h4
  · show (if 0 = tn T + 1 then m else tM T 0) = -1
    rw [if_neg (by omega)]; exact h5
theorem wt_mk {k : Nat} {K : List Int} (hw : WT T) (hK : K.length ≤ 4) : WT (mkT T k K) := by
  obtain ⟨h1, h2, h3, h4, h5⟩ := hw
  refine ⟨h1, h2, fun j => ⟨(h3 j).1, ?_⟩, h4, h5⟩
  show (if j = k then K else tK T j).length ≤ 4
  by_cases e : j = k
  · rw [if_pos e]; exact hK
  · rw [if_neg e]; exact (h3 j).2
theorem wt_rk {k : Nat} {r : List Int} (hw : WT T) (hr : r.length ≤ 200) : WT (rkT T k r) := by
  obtain ⟨h1, h2, h3, h4, h5⟩ := hw
  refine ⟨h1, h2, fun j => ⟨?_, (h3 j).2⟩, h4, h5⟩
  show (if j = k then r else tR T j).length ≤ 200
  by_cases e : j = k
  · rw [if_pos e]; exact hr
  · rw [if_neg e]; exact (h3 j).1
theorem posT_g1 {p : Nat} {m : Int} (hw : WT T) (hp : p ≤ tn T) (hn : tn T < 300) (hm : 0 ≤ m ∧ m ≤ 24575) : posT st (grT T p m) (tn T + 1) = afO (posT st T p) m := by
  have e1 : tP (grT T p m) (tn T + 1) = (p : Int) := if_pos rfl
  have e2 : tM (grT T p m) (tn T + 1) = m := if_pos rfl
  rw [posT_s (k := tn T + 1) (wt_gr hw hp hn hm) (by omega) (Nat.le_refl (tn T + 1)), e1, e2, Int.toNat_natCast, posT_gr hw hp]
theorem lt_gr {p : Nat} {m : Int} (hw : WT T) (h : LTr st T) (hp : p ≤ tn T) (hL : LGo (posT st T p) m) : LTr st (grT T p m) := by
  refine ⟨h.1, h.2.1, fun k k1 k2 => ?_⟩
  have k2' : k ≤ tn T + 1 := k2
  by_cases e : k = tn T + 1
  · have e1 : tP (grT T p m) k = (p : Int) := if_pos e
    have e2 : tM (grT T p m) k = m := if_pos e
    rw [e1, e2, Int.toNat_natCast, posT_gr hw hp]; exact hL
  · have e1 : tP (grT T p m) k = tP T k := if_neg e
    have e2 : tM (grT T p m) k = tM T k := if_neg e
    have hb := (hw.2.1 k k1 (by omega)).1
    rw [e1, e2, posT_gr hw (by omega)]; exact h.2.2 k k1 (by omega)
end ANC
