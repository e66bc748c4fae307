/-- how large a game's part of a table is -/
noncomputable def sz (j : Nat) : Nat := if j = 7 ∨ j = 18 ∨ j = 23 then 1 else if j = 13 then 1204 else if j = 15 then 60200 else if j = 16 then 64 else if j = 17 then 5 else if j = 19 ∨ j = 21 then 8 else if j = 20 then 96 else if j = 22 then 768 else 301
/-- only the tables of game g change, and what belongs to no game -/
noncomputable def RDf (A A' : Nat → Nat → Int32) (g : Nat) : Prop := (∀ j, j < 7 → A' j = A j) ∧ ∀ j, 7 ≤ j → j ≤ 23 → ∀ i, i / sz j ≠ g → A' j i = A j i
section APS
variable {I I' : Nat → Int32} {A A1 A2 A' : Nat → Nat → Int32} {g h p k : Nat} {T : TRa} {o : Int32 × MS} {x1 x2 x3 x4 : Int32}
theorem rdf_0 : RDf A A g := ⟨fun _ _ => rfl, fun _ _ _ _ _ => rfl⟩
theorem rdf_t (h : RDf A A1 g) (k : RDf A1 A2 g) : RDf A A2 g := ⟨fun j hj => (k.1 j hj).trans (h.1 j hj), fun j h1 h2 i hi => (k.2 j h1 h2 i hi).trans (h.2 j h1 h2 i hi)⟩
theorem rdf_hi (h : ∀ j, j ≤ 23 → A' j = A j) : RDf A A' g := ⟨fun j hj => h j (by omega), fun j _ h2 i _ => by rw [h j h2]⟩
theorem rdf_rm (h : RFm I I' A A' (301 * g + k)) (hk : k ≤ 300) : RDf A A' g := by
  obtain ⟨-, f1, f2, f3⟩ := h
  refine ⟨fun j hj => f1 j (by omega) (by omega), fun j h1 h2 i hi => ?_⟩
  by_cases e14 : j = 14
  · subst e14
    have s : sz 14 = 301 := rfl
    rw [s] at hi
    exact f2 i (by omega)
  · by_cases e15 : j = 15
    · subst e15
      have s : sz 15 = 60200 := rfl
      rw [s] at hi
      exact f3 i (by omega)
    · rw [f1 j e14 e15]
theorem rdf_rk (h : RFk I I' A A' (301 * g + k)) (hk : k ≤ 300) : RDf A A' g := by
  obtain ⟨-, f1, f2, f3⟩ := h
  refine ⟨fun j hj => f1 j (by omega) (by omega), fun j h1 h2 i hi => ?_⟩
  by_cases e14 : j = 12
  · subst e14
    have s : sz 12 = 301 := rfl
    rw [s] at hi
    exact f2 i (by omega)
  · by_cases e15 : j = 13
    · subst e15
      have s : sz 13 = 1204 := rfl
      rw [s] at hi
      exact f3 i (by omega)
    · rw [f1 j e14 e15]
/-- the loop that looks for the last child -/
theorem ap_94 (hg : g ≤ 1) (h1 : x1.toInt = (g : Int)) {n0 : Nat} (hn : n0 ≤ 300) : ∀ (n : Nat) (l : List Nat) (x5 : Int32), chn (aN A g) l x5.toInt → (hl : l ≠ []) → (∀ k ∈ l, 1 ≤ k ∧ k ≤ n0) → f_append_94 n x1 x4 x5 I A = some o → o = (x4, (I, va_up A 11 (upd (A 11) (301 * g + l.getLast hl) x4))) := by
  intro n
  induction n with
  | zero => intro l x5 _ _ _ hf; cases hf
  | succ n ih =>
    intro l x5 hc hl hm hf
    have hf : f_append_94s (f_append_94 n) x1 x4 x5 I A = some o := hf
    cases l with
    | nil => exact absurd rfl hl
    | cons k l =>
      obtain ⟨hc1, hc2⟩ := hc
      have hk := hm k List.mem_cons_self
      unfold f_append_94s at hf
      obtain ⟨v1, e_v1, hf⟩ := m_bndE hf
      have t_v1 : v1.toInt = 301 * x1.toInt := ti_mul e_v1 (show (301 : Int32).toInt = 301 from rfl) rfl (by omega) (by omega)
      obtain ⟨v2, e_v2, hf⟩ := m_bndE hf
      have t_v2 : v2.toInt = v1.toInt + x5.toInt := ti_add e_v2 rfl rfl (by omega) (by omega)
      obtain ⟨-, hf⟩ := m_chkE hf
      obtain ⟨v3, e_v3, hf⟩ := m_bndE hf
      have t3 : v3.toInt = aN A g k := by rw [e_v3, cl_n (n := 301 * g + k) (by omega)]; rfl
      rcases m_ifE hf with ⟨c1, hf⟩ | ⟨c1, hf⟩
      · skip
        replace c1 := ti_ltP (a := v3) (b := (0 : Int32)) c1 rfl (show (0 : Int32).toInt = 0 from rfl)
        obtain ⟨v4, e_v4, hf⟩ := m_bndE hf
        have t_v4 : v4.toInt = 301 * x1.toInt := ti_mul e_v4 (show (301 : Int32).toInt = 301 from rfl) rfl (by omega) (by omega)
        obtain ⟨v5, e_v5, hf⟩ := m_bndE hf
        have t_v5 : v5.toInt = v4.toInt + x5.toInt := ti_add e_v5 rfl rfl (by omega) (by omega)
        obtain ⟨-, hf⟩ := m_chkE hf
        obtain ⟨A6, e_A6, hf⟩ := m_bndE hf
        unfold f_append_143 at hf
        cases hf
        try dsimp only
        have l0 : l = [] := chn_nil (v := aN A g k) hc2 (by omega)
        subst l0
        rw [e_A6, cl_n (n := 301 * g + k) (by omega)]
        rfl
      · skip
        replace c1 := ti_ltN (a := v3) (b := (0 : Int32)) c1 rfl (show (0 : Int32).toInt = 0 from rfl)
        obtain ⟨v7, e_v7, hf⟩ := m_bndE hf
        have t_v7 : v7.toInt = 301 * x1.toInt := ti_mul e_v7 (show (301 : Int32).toInt = 301 from rfl) rfl (by omega) (by omega)
        obtain ⟨v8, e_v8, hf⟩ := m_bndE hf
        have t_v8 : v8.toInt = v7.toInt + x5.toInt := ti_add e_v8 rfl rfl (by omega) (by omega)
        obtain ⟨-, hf⟩ := m_chkE hf
        obtain ⟨v9, e_v9, hf⟩ := m_bndE hf
        have t9 : v9.toInt = aN A g k := by rw [e_v9, cl_n (n := 301 * g + k) (by omega)]; rfl
        have ln : l ≠ [] := fun e => by
          rw [e] at hc2
          have : aN A g k = -1 := hc2
          omega
        rw [List.getLast_cons ln]
        exact ih l v9 (by rw [t9]; exact hc2) ln (fun j hj => hm j (List.mem_cons_of_mem _ hj)) hf
theorem upd_i {f : Nat → Int32} {i j : Nat} {v : Int32} : upd f i v j = if j = i then v else f j := by
  by_cases e : j = i
  · rw [if_pos e, e, upd_self]
  · rw [if_neg e, upd_ne e]
/-- the reference's tree with a node more -/
theorem v_append (hg : g ≤ 1) (hA : TK A) (hw : WT T) (h : TRr A g T) (h1 : x1.toInt = (g : Int)) (h2 : x2.toInt = (p : Int)) (hp : p ≤ tn T) (h3 : 0 ≤ x3.toInt ∧ x3.toInt ≤ 24575) (hn : tn T ≤ 299) (hf : f_append x1 x2 x3 I A = some o) : o.1.toInt = ((tn T + 1 : Nat) : Int) ∧ o.2.1 = I ∧ TK o.2.2 ∧ TRr o.2.2 g (grT T p x3.toInt) ∧ RDf A o.2.2 g ∧ ∀ j, 15 ≤ j → o.2.2 j = A j := by
  have hf : f_append_0 x1 x2 x3 I A = some o := hf
  obtain ⟨t1, t2, t3⟩ := id h
  have hix : x1.toNatClampNeg = g := cl_n h1
  have hk7 := tA_7 hA g
  have hkk : (A 7 g).toInt = (tn T : Int) := by have tq := t1.1; unfold aK at tq; omega
  have z1 : (1 : Int32).toInt = 1 := rfl
  -- what is left to show, once all is written
  have fin : ∀ (A' : Nat → Nat → Int32) (v4 : Int32), v4.toInt = ((tn T + 1 : Nat) : Int) → TK A' → A' 7 = upd (A 7) g v4 → A' 8 = upd (A 8) (301 * g + (tn T + 1)) x2 → A' 9 = upd (A 9) (301 * g + (tn T + 1)) x3 → A' 12 = upd (A 12) (301 * g + (tn T + 1)) 0 → A' 14 = upd (A 14) (301 * g + (tn T + 1)) 0 → (∀ j, j < 7 ∨ j = 13 ∨ 15 ≤ j → A' j = A j) → (∀ i, i / 301 ≠ g → A' 10 i = A 10 i ∧ A' 11 i = A 11 i) →
      (∀ j, j ≤ 300 → aC A' g j = if j = tn T + 1 then -1 else if j = p ∧ tL T p = [] then ((tn T + 1 : Nat) : Int) else aC A g j) → (tL T p = [] → ∀ j, j ≤ 300 → aN A' g j = if j = tn T + 1 then -1 else aN A g j) → (∀ hl : tL T p ≠ [], ∀ j, j ≤ 300 → aN A' g j = if j = (tL T p).getLast hl then ((tn T + 1 : Nat) : Int) else if j = tn T + 1 then -1 else aN A g j) → TK A' ∧ TRr A' g (grT T p x3.toInt) ∧ RDf A A' g ∧ ∀ j, 15 ≤ j → A' j = A j := by
    intro A' v4 hv4 hK f7 f8 f9 f12 f14 fo fo2 fC fNa fNb
    have hb : TTb (tn T) (aP A g) (fun _ => 0) := fun k k1 k2 => by
      rw [(t3 k k2).1.1]
      exact ⟨((hw.2.1 k k1 k2).1), Int.le_refl _⟩
    have eP : ∀ j, aP A' g j = if j = tn T + 1 then (p : Int) else aP A g j := fun j => by
      unfold aP
      rw [f8, upd_i]
      by_cases e : j = tn T + 1
      · rw [if_pos e, if_pos (by omega)]; exact h2
      · rw [if_neg e, if_neg (by omega)]
    have eM : ∀ j, aM A' g j = if j = tn T + 1 then x3.toInt else aM A g j := fun j => by
      unfold aM
      rw [f9, upd_i]
      by_cases e : j = tn T + 1
      · rw [if_pos e, if_pos (by omega)]
      · rw [if_neg e, if_neg (by omega)]
    have ml : ∀ hl : tL T p ≠ [], 1 ≤ (tL T p).getLast hl ∧ (tL T p).getLast hl ≤ tn T := fun hl => by
      have := ((t2 p hp).2.2 _).1 (List.getLast_mem hl)
      exact ⟨this.1, this.2.1⟩
    have hTTl : TTl (tn T + 1) (aP A' g) (aC A' g) (aN A' g) (fun q => if q = p then tL T p ++ [tn T + 1] else if q = tn T + 1 then [] else tL T q) := by
      refine TTl_app hb t2 hp (fun j hj => by rw [eP, if_neg (by omega)]) (by rw [eP, if_pos rfl]) (fun j hj hne => by rw [fC j (by omega), if_neg (by omega), if_neg (fun e => hne e.1)]) (fun hl => by rw [fC p (by omega), if_neg (by omega), if_neg (fun e => hl e.2)]) (fun hl => by rw [fC p (by omega), if_neg (by omega), if_pos ⟨rfl, hl⟩]) (by rw [fC _ (by omega), if_pos rfl]) (fun j hj hne => ?_) (fun hl => ?_) ?_
      · by_cases hl : tL T p = []
        · rw [fNa hl j (by omega), if_neg (by omega)]
        · rw [fNb hl j (by omega), if_neg (hne hl), if_neg (by omega)]
      · have := ml hl
        rw [fNb hl _ (by omega), if_pos rfl]
      · by_cases hl : tL T p = []
        · rw [fNa hl _ (by omega), if_pos rfl]
        · have := ml hl
          rw [fNb hl _ (by omega), if_neg (by omega), if_pos rfl]
    refine ⟨hK, ⟨⟨?_, ?_⟩, hTTl, fun k hk => ?_⟩, ⟨fun j hj => fo j (Or.inl hj), fun j j1 j2 i hi => ?_⟩, fun j hj => fo j (by omega)⟩
    · show (A' 7 g).toInt.toNat = tn T + 1
      rw [f7, upd_self, hv4]; rfl
    · by_cases hl : tL T p = []
      · rw [fNa hl 0 (Nat.zero_le _), if_neg (by omega)]; exact t1.2
      · have := ml hl
        rw [fNb hl 0 (Nat.zero_le _), if_neg (by omega), if_neg (by omega)]; exact t1.2
    · show (aP A' g k = (if k = tn T + 1 then (p : Int) else tP T k) ∧ aM A' g k = (if k = tn T + 1 then x3.toInt else tM T k)) ∧ NKr A' (301 * g + k) (if k = tn T + 1 then [] else tK T k) ∧ NRr A' (301 * g + k) (if k = tn T + 1 then [] else tR T k)
      have hk' : k ≤ tn T + 1 := hk
      rw [eP, eM]
      by_cases e : k = tn T + 1
      · rw [if_pos e, if_pos e, if_pos e, if_pos e, if_pos e, if_pos e]
        refine ⟨⟨rfl, rfl⟩, ⟨by rw [f12, e, upd_self]; rfl, fun i hi => absurd hi (Nat.not_lt_zero _)⟩, by rw [f14, e, upd_self]; rfl, fun i hi => absurd hi (Nat.not_lt_zero _)⟩
      · rw [if_neg e, if_neg e, if_neg e, if_neg e, if_neg e, if_neg e]
        obtain ⟨a1, a2, a3⟩ := t3 k (by omega)
        refine ⟨a1, ⟨by rw [f12, upd_ne (by omega)]; exact a2.1, fun i hi => by rw [fo 13 (Or.inr (Or.inl rfl))]; exact a2.2 i hi⟩, by rw [f14, upd_ne (by omega)]; exact a3.1, fun i hi => by rw [fo 15 (Or.inr (Or.inr (by decide)))]; exact a3.2 i hi⟩
    · by_cases c1 : j = 13 ∨ 15 ≤ j
      · rw [fo j (by omega)]
      · have c2 : j = 7 ∨ j = 8 ∨ j = 9 ∨ j = 10 ∨ j = 11 ∨ j = 12 ∨ j = 14 := by omega
        rcases c2 with e | e | e | e | e | e | e <;> subst e
        · have s : sz 7 = 1 := rfl
          rw [s] at hi
          rw [f7, upd_ne (by omega)]
        · have s : sz 8 = 301 := rfl
          rw [s] at hi
          rw [f8, upd_ne (by omega)]
        · have s : sz 9 = 301 := rfl
          rw [s] at hi
          rw [f9, upd_ne (by omega)]
        · exact (fo2 i hi).1
        · exact (fo2 i hi).2
        · have s : sz 12 = 301 := rfl
          rw [s] at hi
          rw [f12, upd_ne (by omega)]
        · have s : sz 14 = 301 := rfl
          rw [s] at hi
          rw [f14, upd_ne (by omega)]
  unfold f_append_0 at hf
  obtain ⟨-, hf⟩ := m_chkE hf
  obtain ⟨v1, e_v1, hf⟩ := m_bndE hf
  have t1' : v1.toInt = (tn T : Int) := by rw [e_v1, hix]; exact hkk
  obtain ⟨v2, e_v2, hf⟩ := m_bndE hf
  have t_v2 : v2.toInt = v1.toInt + 1 := ti_add e_v2 rfl (show (1 : Int32).toInt = 1 from rfl) (by omega) (by omega)
  obtain ⟨-, hf⟩ := m_chkE hf
  obtain ⟨A3, e_A3, hf⟩ := m_bndE hf
  rw [hix] at e_A3
  have hA3 : TK A3 := e_A3.symm ▸ tk_u hA (j := 7) (show (0 : Int) ≤ v2.toInt by omega) (show v2.toInt ≤ (300 : Int) by omega)
  obtain ⟨-, hf⟩ := m_chkE hf
  obtain ⟨v4, e_v4, hf⟩ := m_bndE hf
  have e4 : v4 = v2 := by rw [e_v4, e_A3, hix, va_up_self, upd_self]
  have t4 : v4.toInt = ((tn T + 1 : Nat) : Int) := by rw [e4]; omega
  obtain ⟨v5, e_v5, hf⟩ := m_bndE hf
  have t_v5 : v5.toInt = 301 * x1.toInt := ti_mul e_v5 (show (301 : Int32).toInt = 301 from rfl) rfl (by omega) (by omega)
  obtain ⟨v6, e_v6, hf⟩ := m_bndE hf
  have t_v6 : v6.toInt = v5.toInt + v4.toInt := ti_add e_v6 rfl rfl (by omega) (by omega)
  obtain ⟨⟨r7, Ic7, Ac7⟩, h_r7, hf⟩ := m_clE hf
  dsimp only at hf
  have i6 : v6.toNatClampNeg = 301 * g + (tn T + 1) := cl_n (by omega)
  have q7 := clearNode_eq (I := I) (A := A3) (x1 := v6) (by omega)
  rw [q7, i6] at h_r7
  cases h_r7
  have hA7 := tk_cNd (i := 301 * g + (tn T + 1)) hA3
  obtain ⟨v8, e_v8, hf⟩ := m_bndE hf
  have t_v8 : v8.toInt = 301 * x1.toInt := ti_mul e_v8 (show (301 : Int32).toInt = 301 from rfl) rfl (by omega) (by omega)
  obtain ⟨v9, e_v9, hf⟩ := m_bndE hf
  have t_v9 : v9.toInt = v8.toInt + v4.toInt := ti_add e_v9 rfl rfl (by omega) (by omega)
  obtain ⟨-, hf⟩ := m_chkE hf
  obtain ⟨A10, e_A10, hf⟩ := m_bndE hf
  have i9 : v9.toNatClampNeg = 301 * g + (tn T + 1) := cl_n (by omega)
  rw [i9] at e_A10
  have hA10 : TK A10 := e_A10.symm ▸ tk_u hA7 (j := 8) (show (-1 : Int) ≤ x2.toInt by omega) (show x2.toInt ≤ (300 : Int) by omega)
  obtain ⟨v11, e_v11, hf⟩ := m_bndE hf
  have t_v11 : v11.toInt = 301 * x1.toInt := ti_mul e_v11 (show (301 : Int32).toInt = 301 from rfl) rfl (by omega) (by omega)
  obtain ⟨v12, e_v12, hf⟩ := m_bndE hf
  have t_v12 : v12.toInt = v11.toInt + v4.toInt := ti_add e_v12 rfl rfl (by omega) (by omega)
  obtain ⟨-, hf⟩ := m_chkE hf
  obtain ⟨A13, e_A13, hf⟩ := m_bndE hf
  have i12 : v12.toNatClampNeg = 301 * g + (tn T + 1) := cl_n (by omega)
  rw [i12] at e_A13
  have hA13 : TK A13 := e_A13.symm ▸ tk_u hA10 (j := 9) (show (-1 : Int) ≤ x3.toInt by omega) (show x3.toInt ≤ (24575 : Int) by omega)
  have s7 : A13 7 = upd (A 7) g v4 := by rw [e_A13, e_A10, e_A3, e4]; rfl
  have s8 : A13 8 = upd (A 8) (301 * g + (tn T + 1)) x2 := by rw [e_A13, e_A10, e_A3]; rfl
  have s9 : A13 9 = upd (A 9) (301 * g + (tn T + 1)) x3 := by rw [e_A13, e_A10, e_A3]; rfl
  have s10 : A13 10 = upd (A 10) (301 * g + (tn T + 1)) (-1) := by rw [e_A13, e_A10, e_A3]; rfl
  have s11 : A13 11 = upd (A 11) (301 * g + (tn T + 1)) (-1) := by rw [e_A13, e_A10, e_A3]; rfl
  have s12 : A13 12 = upd (A 12) (301 * g + (tn T + 1)) 0 := by rw [e_A13, e_A10, e_A3]; rfl
  have s14 : A13 14 = upd (A 14) (301 * g + (tn T + 1)) 0 := by rw [e_A13, e_A10, e_A3]; rfl
  have so : ∀ j, j < 7 ∨ j = 13 ∨ 15 ≤ j → A13 j = A j := fun j hj => by
    rw [e_A13, va_up_ne _ _ (by omega), e_A10, va_up_ne _ _ (by omega)]
    unfold cNd
    rw [va_up_ne _ _ (by omega), va_up_ne _ _ (by omega), va_up_ne _ _ (by omega), va_up_ne _ _ (by omega), e_A3, va_up_ne _ _ (by omega)]
  clear e_A13 e_A10 e_A3
  have aC13 : ∀ j, aC A13 g j = if j = tn T + 1 then -1 else aC A g j := fun j => by
    unfold aC
    rw [s10, upd_i]
    by_cases e : j = tn T + 1
    · rw [if_pos e, if_pos (by omega)]; rfl
    · rw [if_neg e, if_neg (by omega)]
  have aN13 : ∀ j, aN A13 g j = if j = tn T + 1 then -1 else aN A g j := fun j => by
    unfold aN
    rw [s11, upd_i]
    by_cases e : j = tn T + 1
    · rw [if_pos e, if_pos (by omega)]; rfl
    · rw [if_neg e, if_neg (by omega)]
  have hc := (t2 p hp).1
  obtain ⟨v14, e_v14, hf⟩ := m_bndE hf
  have t_v14 : v14.toInt = 301 * x1.toInt := ti_mul e_v14 (show (301 : Int32).toInt = 301 from rfl) rfl (by omega) (by omega)
  obtain ⟨v15, e_v15, hf⟩ := m_bndE hf
  have t_v15 : v15.toInt = v14.toInt + x2.toInt := ti_add e_v15 rfl rfl (by omega) (by omega)
  obtain ⟨-, hf⟩ := m_chkE hf
  obtain ⟨v16, e_v16, hf⟩ := m_bndE hf
  have w16 : v16.toInt = aC A g p := by
    have := aC13 p
    rw [if_neg (by omega)] at this
    rw [e_v16, cl_n (n := 301 * g + p) (by omega), ← this]; rfl
  rcases m_ifE hf with ⟨c1, hf⟩ | ⟨c1, hf⟩
  · skip
    replace c1 := ti_leP (a := (0 : Int32)) (b := v16) c1 (show (0 : Int32).toInt = 0 from rfl) rfl
    have ln : tL T p ≠ [] := fun e => by
      rw [e] at hc
      have : aC A g p = -1 := hc
      omega
    have mem : ∀ k ∈ tL T p, 1 ≤ k ∧ k ≤ tn T := fun k hk => by
      have := ((t2 p hp).2.2 k).1 hk
      exact ⟨this.1, this.2.1⟩
    have hc13 : chn (aN A13 g) (tL T p) v16.toInt := by
      rw [w16]
      exact chn_congr (fun k hk => by rw [aN13, if_neg (by have := mem k hk; omega)]) hc
    have q := ap_94 (n0 := tn T) hg h1 (by omega) mFuel (tL T p) v16 hc13 ln mem hf
    rw [q]
    dsimp only
    have lm := mem _ (List.getLast_mem ln)
    have o19 : ∀ j, j ≠ 11 → va_up A13 11 (upd (A13 11) (301 * g + (tL T p).getLast ln) v4) j = A13 j := fun j hj => va_up_ne _ _ hj
    have k19 : va_up A13 11 (upd (A13 11) (301 * g + (tL T p).getLast ln) v4) 11 = upd (A13 11) (301 * g + (tL T p).getLast ln) v4 := va_up_self _ _ _
    refine ⟨t4, rfl, fin _ v4 t4 (tk_u hA13 (j := 11) (show (-1 : Int) ≤ v4.toInt by omega) (show v4.toInt ≤ (300 : Int) by omega)) ((o19 7 (by decide)).trans s7) ((o19 8 (by decide)).trans s8) ((o19 9 (by decide)).trans s9) ((o19 12 (by decide)).trans s12) ((o19 14 (by decide)).trans s14) (fun j hj => (o19 j (by omega)).trans (so j hj)) (fun i hi => ⟨by rw [o19 10 (by decide), s10, upd_ne (by omega)], by rw [k19, upd_ne (by omega), s11, upd_ne (by omega)]⟩) (fun j hj => ?_) (fun e => absurd e ln) (fun hl j hj => ?_)⟩
    · unfold aC
      rw [o19 10 (by decide)]
      show aC A13 g j = _
      rw [aC13]
      by_cases e : j = tn T + 1
      · rw [if_pos e, if_pos e]
      · rw [if_neg e, if_neg e, if_neg (fun e2 => ln e2.2)]; rfl
    · unfold aN
      rw [k19, upd_i]
      by_cases e : j = (tL T p).getLast hl
      · rw [if_pos e, if_pos (by rw [e])]; exact t4
      · rw [if_neg e, if_neg (fun e2 => e (by omega))]
        exact aN13 j
  · skip
    replace c1 := ti_leN (a := (0 : Int32)) (b := v16) c1 (show (0 : Int32).toInt = 0 from rfl) rfl
    obtain ⟨v17, e_v17, hf⟩ := m_bndE hf
    have t_v17 : v17.toInt = 301 * x1.toInt := ti_mul e_v17 (show (301 : Int32).toInt = 301 from rfl) rfl (by omega) (by omega)
    obtain ⟨v18, e_v18, hf⟩ := m_bndE hf
    have t_v18 : v18.toInt = v17.toInt + x2.toInt := ti_add e_v18 rfl rfl (by omega) (by omega)
    obtain ⟨-, hf⟩ := m_chkE hf
    obtain ⟨A19, e_A19, hf⟩ := m_bndE hf
    unfold f_append_143 at hf
    cases hf
    try dsimp only
    have l0 : tL T p = [] := chn_nil (v := aC A g p) hc (by omega)
    have i18 : v18.toNatClampNeg = 301 * g + p := cl_n (by omega)
    rw [i18] at e_A19
    have o19 : ∀ j, j ≠ 10 → A19 j = A13 j := fun j hj => by rw [e_A19]; exact va_up_ne _ _ hj
    have k19 : A19 10 = upd (A13 10) (301 * g + p) v4 := by rw [e_A19]; exact va_up_self _ _ _
    refine ⟨t4, rfl, fin A19 v4 t4 (by rw [e_A19]; exact tk_u hA13 (j := 10) (show (-1 : Int) ≤ v4.toInt by omega) (show v4.toInt ≤ (300 : Int) by omega)) ((o19 7 (by decide)).trans s7) ((o19 8 (by decide)).trans s8) ((o19 9 (by decide)).trans s9) ((o19 12 (by decide)).trans s12) ((o19 14 (by decide)).trans s14) (fun j hj => (o19 j (by omega)).trans (so j hj)) (fun i hi => ⟨by rw [k19, upd_ne (by omega), s10, upd_ne (by omega)], by rw [o19 11 (by decide), s11, upd_ne (by omega)]⟩) (fun j hj => ?_) (fun _ j hj => by unfold aN; rw [o19 11 (by decide)]; exact aN13 j) (fun hl => absurd l0 hl)⟩
    unfold aC
    rw [k19, upd_i]
    by_cases e : j = p
    · rw [if_pos (by omega), if_neg (by omega), if_pos ⟨e, l0⟩]; exact t4
    · rw [if_neg (by omega)]
      have := aC13 j
      unfold aC at this
      rw [this]
      by_cases e2 : j = tn T + 1
      · rw [if_pos e2, if_pos e2]
      · rw [if_neg e2, if_neg e2, if_neg (fun e3 => e e3.1)]
end APS
