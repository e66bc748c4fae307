/-- the start position of the reference's game g -/
noncomputable def SPp (A : Nat → Nat → Int32) (g : Nat) (st : PO) : Prop := SPo A (g : Int) (om st) (osd st) (ort st) (ops st) (onb st) ∧ ∀ s, ¬ (0 ≤ s ∧ s < 64) → om st s = 0
/-- what place may change -/
noncomputable def PLf (I I' : Nat → Int32) (A A' : Nat → Nat → Int32) : Prop := (∀ j, j ∉ [25, 26, 27, 28, 29, 33] → I' j = I j) ∧ ∀ j, j ∉ [24, 30, 31, 32, 34] → A' j = A j
section PLC
variable {I I0 I1 I2 : Nat → Int32} {A A0 A1 A2 : Nat → Nat → Int32} {g : Nat} {T : TRa} {st : PO} {o : Int32 × MS} {x1 x2 x3 x4 : Int32}
theorem plf_0 : PLf I I A A := ⟨fun _ _ => rfl, fun _ _ => rfl⟩
theorem plf_t (h : PLf I I1 A A1) (k : PLf I1 I2 A1 A2) : PLf I I2 A A2 := ⟨fun j hj => (k.1 j hj).trans (h.1 j hj), fun j hj => (k.2 j hj).trans (h.2 j hj)⟩
/-- the reference with the moves of a position -/
noncomputable def MVs (I : Nat → Int32) (A : Nat → Nat → Int32) (P : PO) : Prop := (I 33).toInt = ((cnt (LR (om P) (osd P) (ort P) (ops P) (oko P)) 32768 : Nat) : Int) ∧ LST (fun k => (A 32 k).toInt) (LR (om P) (osd P) (ort P) (ops P) (oko P)) mvk 32768
theorem rp_find {P : PO} (h : RPp I A P) (hG : PGd P) (hn : onb P ≤ 1999) (hf : f_findMoves I A = some o) : RPp o.2.1 o.2.2 P ∧ MVs o.2.1 o.2.2 P ∧ PLf I o.2.1 A o.2.2 := by
  obtain ⟨⟨hI, hA⟩, hm, h25, h26, h27, h29⟩ := h
  have fw := fw_findMoves hf
  obtain ⟨a1, a2, a3, a4, a5, a6, -, a8, a9⟩ := p_find (ko := oko P) hG rfl hI hA hm h25 h26 h27 (by omega) hf
  have i29 : o.2.1 29 = I 29 := fw.1 29 (by decide)
  refine ⟨⟨⟨a1, a2⟩, a3, a4, a5, a6, by rw [i29]; exact h29⟩, ⟨a8, a9⟩, fun j hj => fw.1 j (fun e => hj ?_), fun j hj => fw.2 j (fun e => hj ?_)⟩
  · simp at e ⊢; omega
  · simp at e ⊢; omega
theorem pl_147 (hg : g ≤ 1) (h1 : x1.toInt = (g : Int)) (hw : WT T) (hL : LTr st T) {l : List Nat} (hl : AN T l) (hll : l.length ≤ 300) (hM : ∀ k, 1 ≤ k → k ≤ tn T → (A0 9 (301 * g + k)).toInt = tM T k) (hp : ∀ (i : Nat) (h : i < l.length), (A0 34 i).toInt = ((l[i] : Nat) : Int)) : ∀ (n : Nat) (x4 : Int32) (I : Nat → Int32) (A : Nat → Nat → Int32) (i : Nat), x4.toInt = (i : Int) - 1 → i ≤ l.length → RPp I A (posL st (tM T) (l.drop i)) → (∀ j, j ≠ 24 → A j = A0 j) → (∀ j, j ∉ [25, 26, 27, 28, 29] → I j = I0 j) → f_place_147 n x1 x4 I A = some o → RPp o.2.1 o.2.2 (posL st (tM T) l) ∧ MVs o.2.1 o.2.2 (posL st (tM T) l) ∧ PLf I0 o.2.1 A0 o.2.2 := by
  have good : ∀ l', AN T l' → PGd (posL st (tM T) l') ∧ onb (posL st (tM T) l') ≤ 1299 := by
    intro l' h'
    cases l' with
    | nil => exact ⟨hL.1, by have := hL.2.1.2; show onb st ≤ 1299; omega⟩
    | cons k l' =>
      have e : posL st (tM T) (k :: l') = posT st T k := by
        unfold posT
        rw [anc_s hw h'.1.1 h'.1.2, ← h'.2.1]
      rw [e]
      have q := lt_pg hw hL k h'.1.2
      have h3 := hw.1
      have h4 := h'.1.2
      exact ⟨q.1, by omega⟩
  intro n
  induction n with
  | zero => intro x4 I A i _ _ _ _ _ hf; cases hf
  | succ n ih =>
    intro x4 I A i hx hi hR hA hI hf
    have hf : f_place_147s (f_place_147 n) x1 x4 I A = some o := hf
    have h300 := hw.1
    unfold f_place_147s at hf
    rcases m_ifE hf with ⟨c1, hf⟩ | ⟨c1, hf⟩
    · skip
      replace c1 := ti_ltP (a := x4) (b := (0 : Int32)) c1 rfl (show (0 : Int32).toInt = 0 from rfl)
      obtain ⟨⟨r1, Ic1, Ac1⟩, h_r1, hf⟩ := m_clE hf
      dsimp only at hf
      have i0 : i = 0 := by omega
      subst i0
      rw [List.drop_zero] at hR
      obtain ⟨g1, g2⟩ := good l hl
      obtain ⟨a1, a2, a3⟩ := rp_find hR g1 (by omega) h_r1
      dsimp only at a1 a2 a3
      cases hf
      try dsimp only
      refine ⟨a1, a2, fun j hj => (a3.1 j hj).trans (hI j (fun e => hj (by simp at e ⊢; omega))), fun j hj => (a3.2 j hj).trans (hA j (fun e => hj (by simp; omega)))⟩
    · skip
      replace c1 := ti_ltN (a := x4) (b := (0 : Int32)) c1 rfl (show (0 : Int32).toInt = 0 from rfl)
      obtain ⟨v2, e_v2, hf⟩ := m_bndE hf
      have t_v2 : v2.toInt = 301 * x1.toInt := ti_mul e_v2 (show (301 : Int32).toInt = 301 from rfl) rfl (by omega) (by omega)
      obtain ⟨-, hf⟩ := m_chkE hf
      obtain ⟨v3, e_v3, hf⟩ := m_bndE hf
      obtain ⟨j, rfl⟩ : ∃ j, i = j + 1 := ⟨i - 1, by omega⟩
      have jl : j < l.length := by omega
      have t3 : v3.toInt = ((l[j] : Nat) : Int) := by rw [e_v3, cl_n (n := j) (by omega), hA 34 (by decide)]; exact hp j jl
      have dj : l.drop j = l[j] :: l.drop (j + 1) := List.drop_eq_getElem_cons jl
      have aj := an_drop (T := T) j l hl
      rw [dj] at aj
      obtain ⟨aj1, aj2, aj3⟩ := aj
      obtain ⟨v4, e_v4, hf⟩ := m_bndE hf
      have t_v4 : v4.toInt = v2.toInt + v3.toInt := ti_add e_v4 rfl rfl (by omega) (by omega)
      obtain ⟨-, hf⟩ := m_chkE hf
      obtain ⟨v5, e_v5, hf⟩ := m_bndE hf
      have t5 : v5.toInt = tM T l[j] := by
        have h3 := hw.1
        rw [e_v5, cl_n (n := 301 * g + l[j]) (by omega), hA 9 (by decide)]; exact hM _ aj1.1 aj1.2
      obtain ⟨g1, g2⟩ := good _ aj3
      have LG : LGo (posL st (tM T) (l.drop (j + 1))) v5.toInt := by
        rw [t5, aj2]
        exact hL.2.2 _ aj1.1 aj1.2
      obtain ⟨⟨r6, Ic6, Ac6⟩, h_r6, hf⟩ := m_clE hf
      dsimp only at hf
      obtain ⟨b1, b2, b3⟩ := rp_make hR g1 LG (by omega) h_r6
      dsimp only at b1 b2 b3
      rw [t5] at b1
      obtain ⟨v7, e_v7, hf⟩ := m_bndE hf
      have t_v7 : v7.toInt = x4.toInt + (-1) := ti_add e_v7 rfl (show (-1 : Int32).toInt = -1 from rfl) (by omega) (by omega)
      refine ih v7 Ic6 Ac6 j (by omega) (by omega) (by rw [dj]; exact b1) (fun k hk => (b3 k hk).trans (hA k hk)) (fun k hk => (b2 k hk).trans (hI k hk)) hf
theorem pl_42 (hg : g ≤ 1) (h1 : x1.toInt = (g : Int)) (hw : WT T) (hL : LTr st T) {l : List Nat} (hl : AN T l) (hll : l.length ≤ 300) (h3 : x3.toInt = (l.length : Int)) (hI : TJ I) (hM : ∀ k, 1 ≤ k → k ≤ tn T → (A0 9 (301 * g + k)).toInt = tM T k) (hp : ∀ (i : Nat) (h : i < l.length), (A0 34 i).toInt = ((l[i] : Nat) : Int)) (hS : SPp A0 g st) : ∀ (n : Nat) (x4 : Int32) (A : Nat → Nat → Int32), (0 ≤ x4.toInt ∧ x4.toInt ≤ 64) → TK A → (∀ j, j ≠ 24 → A j = A0 j) → (∀ s, 0 ≤ s → s < x4.toInt → mR A s = om st s) → f_place_42 n x1 x3 x4 I A = some o → RPp o.2.1 o.2.2 (posL st (tM T) l) ∧ MVs o.2.1 o.2.2 (posL st (tM T) l) ∧ PLf I o.2.1 A0 o.2.2 := by
  obtain ⟨⟨s1, s2, s3, s4, s5⟩, so⟩ := hS
  have n17 : ∀ (v w : Int32) (q : Int), 0 ≤ q → v.toInt = q → w = A0 17 v.toNatClampNeg → w = A0 17 q.toNat := fun v w q q0 hv hwv => by
    rw [hwv, cl_n (n := q.toNat) (by omega)]
  intro n
  induction n with
  | zero => intro x4 A _ _ _ _ hf; cases hf
  | succ n ih =>
    intro x4 A hx hA hAo hm hf
    have hf : f_place_42s (f_place_42 n) x1 x3 x4 I A = some o := hf
    have e17 := hAo 17 (by decide)
    unfold f_place_42s at hf
    rcases m_ifE hf with ⟨c1, hf⟩ | ⟨c1, hf⟩
    · skip
      replace c1 := ti_leP (a := (64 : Int32)) (b := x4) c1 (show (64 : Int32).toInt = 64 from rfl) rfl
      obtain ⟨v1, e_v1, hf⟩ := m_bndE hf
      have t_v1 : v1.toInt = 5 * x1.toInt := ti_mul e_v1 (show (5 : Int32).toInt = 5 from rfl) rfl (by omega) (by omega)
      obtain ⟨-, hf⟩ := m_chkE hf
      obtain ⟨v2, e_v2, hf⟩ := m_bndE hf
      obtain ⟨I3, e_I3, hf⟩ := m_bndE hf
      have q2 : v2 = A0 17 (5 * (g : Int)).toNat := n17 v1 v2 (5 * (g : Int)) (by omega) (by omega) (by rw [e_v2, e17])
      have hI3 : TJ I3 := by rw [e_I3]; exact tj_u hI (by rw [q2, s2]; exact (show (0 : Int) ≤ osd st by have := hL.1.1; omega)) (by rw [q2, s2]; exact (show osd st ≤ (1 : Int) by have := hL.1.1; omega))
      obtain ⟨v4, e_v4, hf⟩ := m_bndE hf
      have t_v4 : v4.toInt = 5 * x1.toInt := ti_mul e_v4 (show (5 : Int32).toInt = 5 from rfl) rfl (by omega) (by omega)
      obtain ⟨v5, e_v5, hf⟩ := m_bndE hf
      have t_v5 : v5.toInt = v4.toInt + 1 := ti_add e_v5 rfl (show (1 : Int32).toInt = 1 from rfl) (by omega) (by omega)
      obtain ⟨-, hf⟩ := m_chkE hf
      obtain ⟨v6, e_v6, hf⟩ := m_bndE hf
      obtain ⟨I7, e_I7, hf⟩ := m_bndE hf
      have q6 : v6 = A0 17 (5 * (g : Int) + 1).toNat := n17 v5 v6 (5 * (g : Int) + 1) (by omega) (by omega) (by rw [e_v6, e17])
      have hI7 : TJ I7 := by rw [e_I7]; exact tj_w hI3 rfl
      obtain ⟨v8, e_v8, hf⟩ := m_bndE hf
      have t_v8 : v8.toInt = 5 * x1.toInt := ti_mul e_v8 (show (5 : Int32).toInt = 5 from rfl) rfl (by omega) (by omega)
      obtain ⟨v9, e_v9, hf⟩ := m_bndE hf
      have t_v9 : v9.toInt = v8.toInt + 2 := ti_add e_v9 rfl (show (2 : Int32).toInt = 2 from rfl) (by omega) (by omega)
      obtain ⟨-, hf⟩ := m_chkE hf
      obtain ⟨v10, e_v10, hf⟩ := m_bndE hf
      obtain ⟨I11, e_I11, hf⟩ := m_bndE hf
      have q10 : v10 = A0 17 (5 * (g : Int) + 2).toNat := n17 v9 v10 (5 * (g : Int) + 2) (by omega) (by omega) (by rw [e_v10, e17])
      have hI11 : TJ I11 := by rw [e_I11]; exact tj_w hI7 rfl
      obtain ⟨v12, e_v12, hf⟩ := m_bndE hf
      have t_v12 : v12.toInt = 5 * x1.toInt := ti_mul e_v12 (show (5 : Int32).toInt = 5 from rfl) rfl (by omega) (by omega)
      obtain ⟨v13, e_v13, hf⟩ := m_bndE hf
      have t_v13 : v13.toInt = v12.toInt + 3 := ti_add e_v13 rfl (show (3 : Int32).toInt = 3 from rfl) (by omega) (by omega)
      obtain ⟨-, hf⟩ := m_chkE hf
      obtain ⟨v14, e_v14, hf⟩ := m_bndE hf
      obtain ⟨I15, e_I15, hf⟩ := m_bndE hf
      have hI15 : TJ I15 := by rw [e_I15]; exact tj_w hI11 rfl
      obtain ⟨v16, e_v16, hf⟩ := m_bndE hf
      have t_v16 : v16.toInt = 5 * x1.toInt := ti_mul e_v16 (show (5 : Int32).toInt = 5 from rfl) rfl (by omega) (by omega)
      obtain ⟨v17, e_v17, hf⟩ := m_bndE hf
      have t_v17 : v17.toInt = v16.toInt + 4 := ti_add e_v17 rfl (show (4 : Int32).toInt = 4 from rfl) (by omega) (by omega)
      obtain ⟨-, hf⟩ := m_chkE hf
      obtain ⟨v18, e_v18, hf⟩ := m_bndE hf
      obtain ⟨I19, e_I19, hf⟩ := m_bndE hf
      have q18 : v18 = A0 17 (5 * (g : Int) + 4).toNat := n17 v17 v18 (5 * (g : Int) + 4) (by omega) (by omega) (by rw [e_v18, e17])
      have nb := hL.2.1
      have hI19 : TJ I19 := by rw [e_I19]; exact tj_u hI15 (by rw [q18, s5]; exact (show (-1 : Int) ≤ onb st by omega)) (by rw [q18, s5]; exact (show onb st ≤ (2000 : Int) by omega))
      have oI : ∀ j, j ∉ [25, 26, 27, 28, 29] → I19 j = I j := fun j hj => by
        simp at hj
        rw [e_I19, upd_ne (by omega), e_I15, upd_ne (by omega), e_I11, upd_ne (by omega), e_I7, upd_ne (by omega), e_I3, upd_ne (by omega)]
      obtain ⟨v20, e_v20, hf⟩ := m_bndE hf
      have t_v20 : v20.toInt = x3.toInt - 1 := ti_sub e_v20 rfl (show (1 : Int32).toInt = 1 from rfl) (by omega) (by omega)
      have hmm : mR A = om st := by
        funext s
        by_cases c : 0 ≤ s ∧ s < 64
        · exact hm s c.1 (by omega)
        · unfold mR
          rw [if_neg c]
          exact (so s c).symm
      refine pl_147 (I0 := I) (A0 := A0) hg h1 hw hL hl hll hM hp mFuel v20 I19 A l.length (by omega) (Nat.le_refl _) ?_ hAo oI hf
      rw [List.drop_length]
      refine ⟨⟨hI19, hA⟩, hmm, ?_, ?_, ?_, ?_⟩
      · rw [e_I19, upd_ne (by decide), e_I15, upd_ne (by decide), e_I11, upd_ne (by decide), e_I7, upd_ne (by decide), e_I3, upd_self, q2]; exact s2
      · rw [e_I19, upd_ne (by decide), e_I15, upd_ne (by decide), e_I11, upd_ne (by decide), e_I7, upd_self, q6]; exact s3
      · rw [e_I19, upd_ne (by decide), e_I15, upd_ne (by decide), e_I11, upd_self, q10]; exact s4
      · rw [e_I19, upd_self, q18]; exact s5
    · skip
      replace c1 := ti_leN (a := (64 : Int32)) (b := x4) c1 (show (64 : Int32).toInt = 64 from rfl) rfl
      obtain ⟨v21, e_v21, hf⟩ := m_bndE hf
      have t_v21 : v21.toInt = 64 * x1.toInt := ti_mul e_v21 (show (64 : Int32).toInt = 64 from rfl) rfl (by omega) (by omega)
      obtain ⟨v22, e_v22, hf⟩ := m_bndE hf
      have t_v22 : v22.toInt = v21.toInt + x4.toInt := ti_add e_v22 rfl rfl (by omega) (by omega)
      obtain ⟨-, hf⟩ := m_chkE hf
      obtain ⟨v23, e_v23, hf⟩ := m_bndE hf
      obtain ⟨-, hf⟩ := m_chkE hf
      obtain ⟨A24, e_A24, hf⟩ := m_bndE hf
      obtain ⟨v25, e_v25, hf⟩ := m_bndE hf
      have t_v25 : v25.toInt = x4.toInt + 1 := ti_add e_v25 rfl (show (1 : Int32).toInt = 1 from rfl) (by omega) (by omega)
      have t23 : v23.toInt = om st x4.toInt := by
        rw [e_v23, cl_n (n := (64 * (g : Int) + x4.toInt).toNat) (by omega), hAo 16 (by decide)]
        exact s1 x4.toInt (by omega) (by omega)
      have mb := hL.1.2.1 x4.toInt
      have o24 : ∀ j, j ≠ 24 → A24 j = A j := fun j hj => by rw [e_A24]; exact va_up_ne _ _ hj
      have mu := mR_up e_A24 (by omega) (by omega)
      refine ih v25 A24 (by omega) (by rw [e_A24]; exact tk_u hA (tf_b v23).1 (tf_b v23).2) (fun j hj => (o24 j hj).trans (hAo j hj)) (fun s s0 s1 => ?_) hf
      rw [mu]
      by_cases e : s = x4.toInt
      · rw [e, up_s]; exact t23
      · rw [up_n e]; exact hm s s0 (by omega)
theorem pl_5 (hg : g ≤ 1) (h1 : x1.toInt = (g : Int)) (hw : WT T) (hL : LTr st T) (hI : TJ I) {nd : Nat} (hnd : nd ≤ tn T) (hP : ∀ k, k ≤ tn T → (A0 8 (301 * g + k)).toInt = tP T k) (hM : ∀ k, 1 ≤ k → k ≤ tn T → (A0 9 (301 * g + k)).toInt = tM T k) (hS : SPp A0 g st) : ∀ (n : Nat) (x3 x4 : Int32) (A : Nat → Nat → Int32) (pre : List Nat) (k : Nat), x3.toInt = (pre.length : Int) → x4.toInt = (k : Int) → k ≤ tn T → pre.length + k ≤ 300 → ancL (tP T) nd nd = pre ++ ancL (tP T) k k → TK A → (∀ j, j ≠ 34 → A j = A0 j) → (∀ (i : Nat) (h : i < pre.length), (A 34 i).toInt = ((pre[i] : Nat) : Int)) → f_place_5 n x1 x3 x4 I A = some o → RPp o.2.1 o.2.2 (posT st T nd) ∧ MVs o.2.1 o.2.2 (posT st T nd) ∧ PLf I o.2.1 A0 o.2.2 := by
  intro n
  induction n with
  | zero => intro x3 x4 A pre k _ _ _ _ _ _ _ _ hf; cases hf
  | succ n ih =>
    intro x3 x4 A pre k h3 h4 hk hpk hanc hA hAo hp hf
    have hf : f_place_5s (f_place_5 n) x1 x3 x4 I A = some o := hf
    have h300 := hw.1
    unfold f_place_5s at hf
    rcases m_ifE hf with ⟨c1, hf⟩ | ⟨c1, hf⟩
    · skip
      replace c1 := ti_leP (a := x4) (b := (0 : Int32)) c1 rfl (show (0 : Int32).toInt = 0 from rfl)
      have k0 : k = 0 := by omega
      subst k0
      have e : ancL (tP T) nd nd = pre := by rw [hanc]; exact List.append_nil _
      unfold posT
      rw [e]
      have hl : AN T pre := by rw [← e]; exact an_anc hw nd hnd
      have S' : SPp A g st := by
        unfold SPp SPo at hS ⊢
        rw [hAo 16 (by decide), hAo 17 (by decide)]
        exact hS
      obtain ⟨a1, a2, a3⟩ := pl_42 (A0 := A) hg h1 hw hL hl (by omega) h3 hI (fun j j1 j2 => by rw [hAo 9 (by decide)]; exact hM j j1 j2) hp S' mFuel 0 A (by decide) hA (fun _ _ => rfl) (fun s s0 s1 => by have z : (0 : Int32).toInt = 0 := rfl; omega) hf
      exact ⟨a1, a2, a3.1, fun j hj => (a3.2 j hj).trans (hAo j (fun e => hj (by simp; omega)))⟩
    · skip
      replace c1 := ti_leN (a := x4) (b := (0 : Int32)) c1 rfl (show (0 : Int32).toInt = 0 from rfl)
      obtain ⟨-, hf⟩ := m_chkE hf
      obtain ⟨A1, e_A1, hf⟩ := m_bndE hf
      obtain ⟨v2, e_v2, hf⟩ := m_bndE hf
      have t_v2 : v2.toInt = x3.toInt + 1 := ti_add e_v2 rfl (show (1 : Int32).toInt = 1 from rfl) (by omega) (by omega)
      obtain ⟨v3, e_v3, hf⟩ := m_bndE hf
      have t_v3 : v3.toInt = 301 * x1.toInt := ti_mul e_v3 (show (301 : Int32).toInt = 301 from rfl) rfl (by omega) (by omega)
      obtain ⟨v4, e_v4, hf⟩ := m_bndE hf
      have t_v4 : v4.toInt = v3.toInt + x4.toInt := ti_add e_v4 rfl rfl (by omega) (by omega)
      obtain ⟨-, hf⟩ := m_chkE hf
      obtain ⟨v5, e_v5, hf⟩ := m_bndE hf
      have k1 : 1 ≤ k := by omega
      have hb := (hw.2.1 k k1 hk).1
      have x3n : x3.toNatClampNeg = pre.length := cl_n h3
      rw [x3n] at e_A1
      have o1 : ∀ j, j ≠ 34 → A1 j = A j := fun j hj => by rw [e_A1]; exact va_up_ne _ _ hj
      have s1 : A1 34 = upd (A 34) pre.length x4 := by rw [e_A1]; exact va_up_self _ _ _
      have t5 : v5.toInt = tP T k := by rw [e_v5, cl_n (n := 301 * g + k) (by omega), o1 8 (by decide), hAo 8 (by decide)]; exact hP k hk
      have ll : (pre ++ [k]).length = pre.length + 1 := by rw [List.length_append]; rfl
      refine ih v2 v5 A1 (pre ++ [k]) (tP T k).toNat (by omega) (by omega) (by omega) (by omega) ?_ (by rw [e_A1]; exact tk_u hA (show (0 : Int) ≤ x4.toInt by omega) (show x4.toInt ≤ (300 : Int) by omega)) (fun j hj => (o1 j hj).trans (hAo j hj)) (fun i hi => ?_) hf
      · rw [hanc, anc_s hw k1 hk, List.append_assoc]; rfl
      · rw [s1]
        by_cases e : i = pre.length
        · subst e
          rw [upd_self, List.getElem_append_right (Nat.le_refl _)]
          simp
          exact h4
        · rw [upd_ne e, List.getElem_append_left (show i < pre.length by omega)]
          exact hp i (by omega)
/-- the reference goes to a node -/
theorem v_place (hg : g ≤ 1) (h1 : x1.toInt = (g : Int)) (hw : WT T) (hL : LTr st T) (hI : TJ I) (hA : TK A) (hT : TRr A g T) (hS : SPp A g st) {nd : Nat} (h2 : x2.toInt = (nd : Int)) (hnd : nd ≤ tn T) (hf : f_place x1 x2 I A = some o) : RPp o.2.1 o.2.2 (posT st T nd) ∧ MVs o.2.1 o.2.2 (posT st T nd) ∧ PLf I o.2.1 A o.2.2 :=
  pl_5 (A0 := A) hg h1 hw hL hI hnd (fun k hk => (hT.2.2 k hk).1.1) (fun k _ hk => (hT.2.2 k hk).1.2) hS mFuel 0 x2 A [] nd rfl h2 hnd (by have := hw.1; show 0 + nd ≤ 300; omega) rfl hA (fun _ _ => rfl) (fun i hi => absurd hi (Nat.not_lt_zero _)) hf
end PLC
