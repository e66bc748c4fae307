section LED
variable {S S' : ZS} {g g' c k p u H F : Nat} {I I' : Nat → Int32} {A A' : Nat → Nat → Int32} {L : List (List Int × List Int)} {st P : PO} {T T' : TRa} {r v : Int} {x1 x2 x3 : Int32} {o : Int32 × ZS} {o2 : Int32 × MS} {N C : Nat → Int} {D : Nat → Nat}
theorem trr_b (hw : WT T) (tr : TRr A g T) : TTb (tn T) (aP A g) (aM A g) := fun k k1 k2 => by
  have e := (tr.2.2 k k2).1
  rw [e.1, e.2]
  exact ⟨(hw.2.1 k k1 k2).1, (hw.2.1 k k1 k2).2.1⟩
theorem aK_i (hA : TK A) (tr : TRr A g T) : (A 7 g).toInt = (tn T : Int) := by
  have h1 : (A 7 g).toInt.toNat = tn T := tr.1.1
  have h2 : 0 ≤ (A 7 g).toInt ∧ (A 7 g).toInt ≤ 300 := hA 7 g
  omega
/-- the reference looks for a node that would be too deep -/
theorem vl_72 (hI : TJ I) (hA : TK A) (hg : g ≤ 1) (h5 : (I 5).toInt = (g : Int)) (hw : WT T) (tr : TRr A g T) (hd : TTd (tn T) (aP A g) (aC A g) D) (hF : x2.toInt = (F : Int)) (hF3 : F ≤ 300) : ∀ (n : Nat) (x3 : Int32), (1 ≤ x3.toInt ∧ x3.toInt ≤ (tn T : Int) + 1) → (∀ k : Nat, 1 ≤ k → (k : Int) < x3.toInt → bh (aP A g) F k → D k ≠ 6) → f_lead_72 n x1 x2 x3 I A = some o2 → ((∃ k, 1 ≤ k ∧ k ≤ tn T ∧ bh (aP A g) F k ∧ D k = 6) ∧ o2 = (0, (upd I 0 1, A))) ∨ ((∀ k, 1 ≤ k → k ≤ tn T → bh (aP A g) F k → D k ≠ 6) ∧ f_lead_123 mFuel x1 x2 x2 I A = some o2) := by
  intro n
  induction n with
  | zero => intro x3 _ _ hf; cases hf
  | succ n ih =>
    intro x3 hx hc hf
    have hf : f_lead_72s (f_lead_72 n) x1 x2 x3 I A = some o2 := hf
    have h300 := hw.1
    have q0 : TRn A g (tn T) := trr_b hw tr
    have n5 : (I 5).toNatClampNeg = g := cl_n h5
    have nxt : x3.toInt ≤ (tn T : Int) → f_lead_115 (f_lead_72 n) x1 x2 x3 I A = some o2 → (bh (aP A g) F x3.toInt.toNat → D x3.toInt.toNat ≠ 6) → ((∃ k, 1 ≤ k ∧ k ≤ tn T ∧ bh (aP A g) F k ∧ D k = 6) ∧ o2 = (0, (upd I 0 1, A))) ∨ ((∀ k, 1 ≤ k → k ≤ tn T → bh (aP A g) F k → D k ≠ 6) ∧ f_lead_123 mFuel x1 x2 x2 I A = some o2) := fun hx2 hh hq => by
      unfold f_lead_115 at hh
      obtain ⟨v1, e1, hh⟩ := m_bndE hh
      have t1 : v1.toInt = x3.toInt + 1 := ti_add e1 rfl (show (1 : Int32).toInt = 1 from rfl) (by omega) (by omega)
      refine ih v1 (by omega) (fun k k1 k2 hb => ?_) hh
      by_cases e : (k : Int) < x3.toInt
      · exact hc k k1 e hb
      · have ek : k = x3.toInt.toNat := by omega
        rw [ek] at hb ⊢
        exact hq hb
    unfold f_lead_72s at hf
    obtain ⟨-, hf⟩ := m_chkE hf
    obtain ⟨v1, e1, hf⟩ := m_bndE hf
    rw [n5] at e1
    have t1 : v1.toInt = (tn T : Int) := by rw [e1]; exact aK_i hA tr
    rcases m_ifE hf with ⟨d, hf⟩ | ⟨d, hf⟩
    · replace d := ti_ltP (a := v1) (b := x3) d rfl rfl
      exact Or.inr ⟨fun k k1 k2 hb => hc k k1 (by omega) hb, hf⟩
    · replace d := ti_ltN (a := v1) (b := x3) d rfl rfl
      obtain ⟨⟨r2, Ic2, Ac2⟩, h_r2, hf⟩ := m_clE hf
      obtain ⟨a1, -, a3, a4⟩ := ok_of (t_isBehind (gg := g) (nn := tn T) (ww := bh (aP A g) x2.toInt.toNat x3.toInt.toNat) hI hA (by omega) (by omega) q0 h5 (by omega) Iff.rfl) h_r2
      have i1 : Ic2 = I := congrArg Prod.fst a1
      have i2 : Ac2 = A := congrArg Prod.snd a1
      dsimp only at a3 a4 hf
      rw [show x2.toInt.toNat = F by omega] at a3 a4
      rw [i1, i2] at hf
      rcases m_ifE hf with ⟨d2, hf⟩ | ⟨d2, hf⟩
      · exact nxt (by omega) hf (fun hb => absurd hb (a4 (by rw [d2]; rfl)))
      · have hb : bh (aP A g) F x3.toInt.toNat := by
          apply Classical.byContradiction
          intro hn
          have z0 : (0 : Int32).toInt = 0 := rfl
          have := ti_eqN (a := r2) (b := (0 : Int32)) d2 rfl z0
          have b := ok_of (t_isBehind (gg := g) (nn := tn T) (ww := bh (aP A g) x2.toInt.toNat x3.toInt.toNat) hI hA (by omega) (by omega) q0 h5 (by omega) Iff.rfl) h_r2
          have b2 : 0 ≤ r2.toInt ∧ r2.toInt ≤ 1 := b.2.1
          exact hn (a3 (by omega))
        obtain ⟨⟨r3, Ic3, Ac3⟩, h_r3, hf⟩ := m_clE hf
        obtain ⟨b1, -, b3⟩ := ok_of (t_deepOf (gg := g) (nn := tn T) (dd := D) (tt := (D x3.toInt.toNat : Int)) hI hA (by omega) (by omega) q0 h5 (by omega) hd rfl) h_r3
        have j1 : Ic3 = I := congrArg Prod.fst b1
        have j2 : Ac3 = A := congrArg Prod.snd b1
        dsimp only at b3 hf
        rw [j1, j2] at hf
        rcases m_ifE hf with ⟨d3, hf⟩ | ⟨d3, hf⟩
        · replace d3 := ti_eqP (a := r3) (b := (6 : Int32)) d3 rfl (show (6 : Int32).toInt = 6 from rfl)
          obtain ⟨I4, e4, hf⟩ := m_bndE hf
          obtain ⟨-, hf⟩ := m_chkE hf
          refine Or.inl ⟨⟨x3.toInt.toNat, by omega, by omega, hb, by omega⟩, ?_⟩
          rw [← Option.some.inj hf, e4]
        · replace d3 := ti_eqN (a := r3) (b := (6 : Int32)) d3 rfl (show (6 : Int32).toInt = 6 from rfl)
          exact nxt (by omega) hf (fun _ => by omega)
/-- the reference's tree once H goes on -/
theorem trr_ld {b : Nat} {l rr : List Nat} {Fi hi : Int32} (hw : WT T) (tr : TRr A g T) (hu : u ≤ tn T) (hH2 : H ≤ tn T) (hL : tL T u = l ++ b :: H :: rr) (hF : Fi.toInt = hdC T u) (hh : hi.toInt = (H : Int)) : TRr (ldA A g u b H Fi hi) g (ldT T u H) := by
  obtain ⟨h1, hl, h4⟩ := tr
  have E : ∀ j, j ≠ 10 → j ≠ 11 → ldA A g u b H Fi hi j = A j := fun j j1 j2 => by
    unfold ldA
    rw [va_up_ne _ _ j1, va_up_ne _ _ j2]
  have E10 : ldA A g u b H Fi hi 10 = upd (A 10) (301 * g + u) hi := by
    unfold ldA
    exact va_up_self _ _ _
  have E11 : ldA A g u b H Fi hi 11 = upd (upd (A 11) (301 * g + b) (A 11 (301 * g + H))) (301 * g + H) Fi := by
    unfold ldA
    rw [va_up_ne _ _ (by decide)]
    exact va_up_self _ _ _
  have e8 : aP (ldA A g u b H Fi hi) g = aP A g := by funext k; unfold aP; rw [E 8 (by decide) (by decide)]
  have e9 : aM (ldA A g u b H Fi hi) g = aM A g := by funext k; unfold aM; rw [E 9 (by decide) (by decide)]
  have cC : ∀ j, aC (ldA A g u b H Fi hi) g j = if j = u then hi.toInt else aC A g j := fun j => by
    unfold aC
    rw [E10]
    exact up_j
  have cN : ∀ j, aN (ldA A g u b H Fi hi) g j = if j = H then Fi.toInt else if j = b then aN A g H else aN A g j := fun j => by
    unfold aN
    rw [E11, up_j]
    by_cases e : j = H
    · rw [if_pos e, if_pos e]
    · rw [if_neg e, if_neg e, up_j]
  have hnd := (hl u hu).2.1
  have hbH : b ≠ H := fun e => by
    rw [hL, e] at hnd
    exact (List.nodup_cons.mp (List.nodup_append.mp hnd).2.1).1 List.mem_cons_self
  have hc := (hl u hu).1
  have hd := hd_c hc
  obtain ⟨F, hFF⟩ : ∃ F : Nat, aC A g u = (F : Int) := by
    rw [hL] at hc
    cases l with
    | nil => exact ⟨b, hc.1⟩
    | cons z l => exact ⟨z, hc.1⟩
  have eL : H :: (tL T u).erase H = H :: (l ++ b :: rr) := by
    rw [hL] at hnd ⊢
    rw [er_mid hnd]
  have TL := TTl_lead (C' := aC (ldA A g u b H Fi hi) g) (N' := aN (ldA A g u b H Fi hi) g) hl hu hL hFF (fun j hj hju => by rw [cC, if_neg hju]) (by rw [cC, if_pos rfl]; exact hh) (by rw [cN, if_neg hbH, if_pos rfl]) (by rw [cN, if_pos rfl, hF, ← hd]; exact hFF) (fun j hj hjb hjH => by rw [cN, if_neg hjH, if_neg hjb])
  have mH : 1 ≤ H := (((hl u hu).2.2 H).1 (by rw [hL]; simp)).1
  have mb : 1 ≤ b := (((hl u hu).2.2 b).1 (by rw [hL]; simp)).1
  refine ⟨⟨by unfold aK; rw [E 7 (by decide) (by decide)]; exact h1.1, ?_⟩, ?_, fun k hk => ?_⟩
  · rw [cN, if_neg (fun e => by rw [← e] at mH; exact absurd mH (by decide)), if_neg (fun e => by rw [← e] at mb; exact absurd mb (by decide))]
    exact h1.2
  · rw [e8]
    show TTl (tn T) _ _ _ (fun p => if p = u then H :: (tL T u).erase H else tL T p)
    rw [eL]
    exact TL
  · rw [e8, e9]
    unfold NKr NRr
    rw [E 12 (by decide) (by decide), E 13 (by decide) (by decide), E 14 (by decide) (by decide), E 15 (by decide) (by decide)]
    exact h4 k hk
/-- the reference's lead -/
theorem v_lead (hR : RIt I A) (tr : TRr A (I 5).toInt.toNat T) (hw : WT T) (h6 : (I 6).toInt = (c : Int)) (hc : c ≤ tn T) (hd : TTd (tn T) (aP A (I 5).toInt.toNat) (aC A (I 5).toInt.toNat) D) (hf : f_lead I A = some o2) : (c = 0 ∧ o2 = (0, (upd I 0 1, A))) ∨ (1 ≤ c ∧ hdC T (tP T c).toNat = (c : Int) ∧ o2 = (0, (upd I 0 0, A))) ∨ (1 ≤ c ∧ ∃ F : Nat, hdC T (tP T c).toNat = (F : Int) ∧ F ≠ c ∧ (∃ k, 1 ≤ k ∧ k ≤ tn T ∧ bh (aP A (I 5).toInt.toNat) F k ∧ D k = 6) ∧ o2.2.1 0 = 1 ∧ (∀ j, j ≠ 0 → o2.2.1 j = I j) ∧ o2.2.2 = A) ∨ (1 ≤ c ∧ ∃ F : Nat, hdC T (tP T c).toNat = (F : Int) ∧ F ≠ c ∧ (∀ k, 1 ≤ k → k ≤ tn T → bh (aP A (I 5).toInt.toNat) F k → D k ≠ 6) ∧ o2.1 = 1 ∧ o2.2.1 = upd I 0 0 ∧ TRr o2.2.2 (I 5).toInt.toNat (ldT T (tP T c).toNat c) ∧ ∀ j, j ≠ 10 → j ≠ 11 → o2.2.2 j = A j) := by
  obtain ⟨hI, hA, -⟩ := hR
  have b5 : 0 ≤ (I 5).toInt ∧ (I 5).toInt ≤ 1 := hI 5
  have h300 := hw.1
  have z0 : (0 : Int32).toInt = 0 := rfl
  have hf : f_lead_0 I A = some o2 := hf
  have r13 : ∀ {t0 : Int32}, 0 < t0.toInt → f_lead_13 t0 I A = some o2 → o2 = (0, (upd I 0 t0, A)) := fun {t0} ht hh => by
    unfold f_lead_13 at hh
    obtain ⟨I1, e1, hh⟩ := m_bndE hh
    rcases m_ifE hh with ⟨d, hh⟩ | ⟨-, hh⟩
    · replace d := ti_leP (a := I1 0) (b := (0 : Int32)) d rfl z0
      rw [e1, upd_self] at d
      omega
    · obtain ⟨-, hh⟩ := m_chkE hh
      rw [← Option.some.inj hh, e1]
  unfold f_lead_0 at hf
  rcases m_ifE hf with ⟨d, hf⟩ | ⟨d, hf⟩
  · replace d := ti_eqP (a := I 6) (b := (0 : Int32)) d rfl z0
    exact Or.inl ⟨by omega, r13 (by decide) hf⟩
  · replace d := ti_eqN (a := I 6) (b := (0 : Int32)) d rfl z0
    have c1 : 1 ≤ c := by omega
    have hP := (hw.2.1 c c1 hc).1
    obtain ⟨u, hu⟩ : ∃ u : Nat, tP T c = (u : Int) := ⟨(tP T c).toNat, by omega⟩
    have hut : u ≤ tn T := by omega
    have eu : (tP T c).toNat = u := by omega
    rw [eu]
    unfold f_lead_13 at hf
    obtain ⟨I1, e1, hf⟩ := m_bndE hf
    have j0 : I1 0 = 0 := by rw [e1, upd_self]
    have jj : ∀ j, j ≠ 0 → I1 j = I j := fun j hj => by rw [e1, upd_ne hj]
    have hI1 : TJ I1 := by rw [e1]; exact tj_u hI (show (0 : Int) ≤ (0 : Int32).toInt by decide) (show (0 : Int32).toInt ≤ (2 : Int) by decide)
    rcases m_ifE hf with ⟨-, hf⟩ | ⟨d2, hf⟩
    · obtain ⟨v2, f2, hf⟩ := m_bndE hf
      obtain ⟨v3, f3, hf⟩ := m_bndE hf
      rw [jj 5 (by decide)] at f2
      rw [jj 6 (by decide)] at f3
      have t2 : v2.toInt = 301 * (I 5).toInt := ti_mul f2 (show (301 : Int32).toInt = 301 from rfl) rfl (by omega) (by omega)
      have t3 : v3.toInt = v2.toInt + (I 6).toInt := ti_add f3 rfl rfl (by omega) (by omega)
      obtain ⟨-, hf⟩ := m_chkE hf
      obtain ⟨v4, f4, hf⟩ := m_bndE hf
      rw [cl_n (n := 301 * (I 5).toInt.toNat + c) (by omega)] at f4
      have t4 : v4.toInt = (u : Int) := by rw [f4, ← hu]; exact (tr.2.2 c hc).1.1
      obtain ⟨v5, f5, hf⟩ := m_bndE hf
      obtain ⟨v6, f6, hf⟩ := m_bndE hf
      rw [jj 5 (by decide)] at f5
      have t5 : v5.toInt = 301 * (I 5).toInt := ti_mul f5 (show (301 : Int32).toInt = 301 from rfl) rfl (by omega) (by omega)
      have t6 : v6.toInt = v5.toInt + v4.toInt := ti_add f6 rfl rfl (by omega) (by omega)
      obtain ⟨-, hf⟩ := m_chkE hf
      obtain ⟨v7, f7, hf⟩ := m_bndE hf
      rw [cl_n (n := 301 * (I 5).toInt.toNat + u) (by omega)] at f7
      have t7 : v7.toInt = hdC T u := by rw [f7]; exact trr_hd tr hut
      rcases m_ifE hf with ⟨d3, hf⟩ | ⟨d3, hf⟩
      · replace d3 := ti_eqP (a := v7) (b := I1 6) d3 rfl rfl
        rw [jj 6 (by decide)] at d3
        obtain ⟨-, hf⟩ := m_chkE hf
        exact Or.inr (Or.inl ⟨c1, by omega, by rw [← Option.some.inj hf, e1]⟩)
      · replace d3 := ti_eqN (a := v7) (b := I1 6) d3 rfl rfl
        rw [jj 6 (by decide)] at d3
        have hl := tr.2.1 u hut
        have hin : c ∈ tL T u := (hl.2.2 c).2 ⟨c1, hc, by rw [(tr.2.2 c hc).1.1]; exact hu⟩
        cases hL : tL T u with
        | nil => rw [hL] at hin; cases hin
        | cons F l =>
          have hdF : hdC T u = (F : Int) := by unfold hdC; rw [hL]
          have hFc : F ≠ c := by omega
          have hFm := (hl.2.2 F).1 (by rw [hL]; exact List.mem_cons_self)
          have i5 : (I1 5).toInt = (((I 5).toInt.toNat : Nat) : Int) := by rw [jj 5 (by decide)]; omega
          rcases vl_72 (T := T) (D := D) (F := F) hI1 hA (by omega) i5 hw tr hd (by omega) (by omega) mFuel 1 ⟨by decide, by have z : (1 : Int32).toInt = 1 := rfl; omega⟩ (fun k k1 k2 => by have z : (1 : Int32).toInt = 1 := rfl; omega) hf with ⟨hk, ho⟩ | ⟨hk, ho⟩
          · refine Or.inr (Or.inr (Or.inl ⟨c1, F, hdF, hFc, hk, ?_, fun j hj => ?_, ?_⟩))
            · rw [ho]
              show upd I1 0 1 0 = 1
              exact upd_self
            · rw [ho]
              show upd I1 0 1 j = I j
              rw [upd_ne hj]; exact jj j hj
            · rw [ho]
          · have hch := hl.1
            rw [hL] at hch
            have hinl : c ∈ l := by
              rw [hL] at hin
              rcases List.mem_cons.1 hin with e | e
              · exact absurd e.symm hFc
              · exact e
            have hle : ∀ k ∈ l, k ≤ 300 := fun k hk => by
              have := (hl.2.2 k).1 (by rw [hL]; exact List.mem_cons_of_mem _ hk)
              omega
            have hlen : l.length < mFuel := by
              have := chn_len tr.2.1 hut
              rw [hL] at this
              have h9 : (F :: l).length = l.length + 1 := rfl
              have : l.length ≤ 300 := by omega
              exact Nat.lt_of_le_of_lt this (by decide)
            obtain ⟨l1, rr, b', q1, q2, q3⟩ := t_lead_123 (I := I1) (A := A) (g := (I 5).toInt.toNat) (u := u) (H := c) (by omega) i5 (by rw [jj 6 (by decide)]; exact h6) (by omega) (by omega) l F mFuel v4 v7 v7 t4 (by omega) (by omega) hle hch.2 hinl hlen
            rw [q3] at ho
            have eo := (Option.some.inj ho).symm
            refine Or.inr (Or.inr (Or.inr ⟨c1, F, hdF, hFc, hk, by rw [eo], by rw [eo]; exact e1, ?_, fun j j1 j2 => ?_⟩))
            · rw [eo]
              exact trr_ld hw tr hut hc (by rw [hL]; exact q1) t7 (by rw [jj 6 (by decide)]; exact h6)
            · rw [eo]
              show ldA A _ _ _ _ _ _ j = A j
              unfold ldA
              rw [va_up_ne _ _ j1, va_up_ne _ _ j2]
    · exact absurd (show I1 0 ≤ 0 by rw [j0]; decide) d2
theorem ke_7 (hg : g = 35 ∨ g = 99) (F : FR (fun a => a = g + 7) S S') : KE S S' := ke_fr F (fun a hk => by unfold KP9 at hk; omega)
theorem fgm_ke (hC : CG S) (hm : SC S) (w : FGm I A S g L st T r c) (k : KE S S') : FGm I A S' g L st T r c := by
  obtain ⟨⟨p7, gc⟩, gr, ⟨c1, c2, c3⟩, bo, qs⟩ := w
  have hg := (sc_7 hm p7).1
  have k1 : zK S 1 = 11 := fx_k hC.2.2.1 (by decide) (by decide)
  have e1 := k 1 (by rw [k1]; decide) (Or.inr (Or.inr (Or.inr rfl)))
  exact ⟨⟨(e1.2.2.2.1 7).trans p7, gmc_ke hC hg gc k⟩, gr, ⟨by rw [e1.2.2.1 8]; exact c1, c2, c3⟩, ke_107 hC bo k, qs⟩
theorem posT_ld (hw : WT T) : posT st (ldT T u H) c = posT st T c := rfl
theorem wt_ld (hw : WT T) : WT (ldT T u H) := hw
theorem lt_ld (hl : LTr st T) : LTr st (ldT T u H) := hl
/-- lead on both sides -/
theorem fm_lead {o : (Nat × Int32) × ZS} (hC : CG S) (hR : RIt I A) (h : FM I A S) (hs : SM o2.2.1 o2.2.2 o.2) (h2 : f_lead I A = some o2) (ho : d_X11_lead 1 S = some o) : FM o2.2.1 o2.2.2 o.2 ∧ ((o.1.1 = 0 ∧ o2.2.1 0 = 0 ∧ o.1.2 = o2.1) ∨ (o.1.1 = 4 ∧ o2.2.1 0 = 1)) := by
  have hF0 := h
  have h5b : 0 ≤ (I 5).toInt ∧ (I 5).toInt ≤ 1 := hR.1 5
  obtain ⟨hm, g, L, st, T, r, c, w⟩ := h
  obtain ⟨⟨p7, gc⟩, gr, ⟨c1, c2, c3⟩, bo, qs⟩ := id w
  obtain ⟨hw, hl, -, h3⟩ := fw_w w
  obtain ⟨g', hGG⟩ := gg_7 hm.1 p7
  have hgg := gg_g hGG
  obtain ⟨hb, L', D, hl', hd⟩ := hR.2.2.1
  have ek : aK A (I 5).toInt.toNat = tn T := gr.1.1.1.1
  rw [ek] at hd
  have hD := D_dpx hw gr.1.1 hd
  have V := v_lead hR gr.1.1 hw c2 c3 hd h2
  have z0 : (0 : Int32).toInt = 0 := rfl
  have hf : d_X11_lead_0 1 S = some o := ho
  unfold d_X11_lead_0 at hf
  obtain ⟨-, hf⟩ := m_chkE hf
  rcases m_ifE hf with ⟨d, hf⟩ | ⟨d, hf⟩
  · replace d := ti_eqP (a := zI S 8 1) (b := (0 : Int32)) d rfl z0
    have e : o = ((4, 0), zsQ S) := (Option.some.inj hf).symm
    rcases V with ⟨-, e2⟩ | ⟨h1, -⟩ | ⟨h1, -⟩ | ⟨h1, -⟩
    · rw [e, e2] at hs
      rw [e, e2]
      exact ⟨fm_q hC h5b hF0 hs (fun j hj => upd_ne hj), Or.inr ⟨rfl, show upd I 0 1 0 = 1 from upd_self⟩⟩
    · omega
    · omega
    · omega
  · replace d := ti_eqN (a := zI S 8 1) (b := (0 : Int32)) d rfl z0
    have h1 : 1 ≤ c := by omega
    have hP := (hw.2.1 c h1 c3).1
    obtain ⟨-, hf⟩ := m_chkE hf
    replace hf := m_calY hf p7
    obtain ⟨-, hf⟩ := m_chkE hf
    obtain ⟨-, hf⟩ := m_chkE hf
    obtain ⟨⟨y2, S2⟩, h_2, hf⟩ := m_calE hf
    obtain ⟨-, hf⟩ := m_chkE hf
    obtain ⟨e2, q2⟩ := p_goesOn hC hgg hw gc.1.1 c1 h1 c3 h_2
    dsimp only at e2 q2 hf
    rw [e2] at hf
    rcases m_ifE hf with ⟨d2, hf⟩ | ⟨d2, hf⟩
    · rw [d2] at q2
      have hne : hdC T (tP T c).toNat ≠ (c : Int) := by
        rcases q2 with ⟨q, -⟩ | ⟨-, q⟩
        · exact absurd q (by decide)
        · exact q
      obtain ⟨-, hf⟩ := m_chkE hf
      replace hf := m_calY hf p7
      obtain ⟨-, hf⟩ := m_chkE hf
      obtain ⟨-, hf⟩ := m_chkE hf
      obtain ⟨⟨y4, S4⟩, h_4, hf⟩ := m_calE hf
      obtain ⟨-, hf⟩ := m_chkE hf
      obtain ⟨⟨C4, tr4, F4⟩, q4⟩ := p_mayLead (C := fun p => if p = (tP T c).toNat then (c : Int) else hdC T p) hC hgg hw gc.1.1 c1 h1 c3 (fun _ => rfl) h_4
      dsimp only at C4 tr4 F4 q4 hf
      have K4 : KE S S4 := ke_7 hgg F4
      have M4 : SC S4 := sc_fr hm.1 (cg_x C4) F4
      have w4 := fgm_ke hC hm.1 w K4
      obtain ⟨⟨p74, gc4⟩, gr4, ⟨c14, c24, c34⟩, bo4, qs4⟩ := id w4
      -- both sides ask the same
      have same : ∀ F : Nat, hdC T (tP T c).toNat = (F : Int) → F ≠ c → ((∀ k, k ≤ tn T → dpx T (fun p => if p = (tP T c).toNat then (c : Int) else hdC T p) k ≤ 6) ↔ ∀ k, 1 ≤ k → k ≤ tn T → bh (aP A (I 5).toInt.toNat) F k → D k ≠ 6) := fun F hdF hFc => by
        have hu : (tP T c).toNat ≤ tn T := by omega
        have hlu := gr.1.1.2.1 (tP T c).toNat hu
        have hFm : F ∈ tL T (tP T c).toNat := by
          unfold hdC at hdF
          cases eL : tL T (tP T c).toNat with
          | nil => rw [eL] at hdF; have hdF : (-1 : Int) = (F : Int) := hdF; omega
          | cons x l =>
            rw [eL] at hdF
            have hdF : (x : Int) = (F : Int) := hdF
            have : F = x := by omega
            rw [this]; exact List.mem_cons_self
        obtain ⟨f1, f2, f3⟩ := (hlu.2.2 F).1 hFm
        rw [(gr.1.1.2.2 F f2).1.1] at f3
        have hPF := (hw.2.1 F f1 f2).1
        have key := dp_lead (u := (tP T c).toNat) (H := c) (F := F) (C := fun p => if p = (tP T c).toNat then (c : Int) else hdC T p) hw gr.1.1 (fun _ => rfl) hdF hFc f1 (fun k hk ekF => by rw [ekF]; omega) (by omega)
        constructor
        · intro hall k k1 k2 hbk hD6
          have := (key k k2).1 hbk
          have := hall k k2
          have := hD k k2
          omega
        · intro hall k k2
          have h6 := hd.2.2 k k2
          have hDk := hD k k2
          by_cases hbk : bh (aP A (I 5).toInt.toNat) F k
          · have := (key k k2).1 hbk
            by_cases k0 : k = 0
            · rw [k0, dpx_0]; decide
            · have := hall k (by omega) k2 hbk
              omega
          · have := (key k k2).2.1 hbk
            omega
      rcases m_ifE hf with ⟨d4, hf⟩ | ⟨d4, hf⟩
      · rw [d4] at q4
        have bad : ¬ ∀ k, k ≤ tn T → dpx T (fun p => if p = (tP T c).toNat then (c : Int) else hdC T p) k ≤ 6 := fun hall => by
          rcases q4 with ⟨q, -⟩ | ⟨-, k, k1, k2⟩
          · exact absurd q (by decide)
          · have := hall k k1
            omega
        have e : o = ((4, 0), zsQ S4) := (Option.some.inj hf).symm
        rcases V with ⟨v1, -⟩ | ⟨-, v2, -⟩ | ⟨-, F, v2, v3, v4, v5, v6, v7⟩ | ⟨-, F, v2, v3, v4, -⟩
        · omega
        · exact absurd v2 hne
        · rw [e, v7] at hs
          rw [e, v7]
          exact ⟨fm_ke hC h5b hF0 hs (ke_q K4) (v6 5 (by decide)) (v6 6 (by decide)) (fun _ _ _ => rfl) (fun _ _ _ _ _ _ w => qs_e w.2.2.2.2 rfl rfl (fun j hj => v6 j (by omega))), Or.inr ⟨rfl, v5⟩⟩
        · exact absurd ((same F v2 v3).2 v4) bad
      · have good : ∀ k, k ≤ tn T → dpx T (fun p => if p = (tP T c).toNat then (c : Int) else hdC T p) k ≤ 6 := by
          rcases q4 with ⟨-, q⟩ | ⟨q, -⟩
          · exact q
          · exact absurd (i32_of q) d4
        obtain ⟨-, hf⟩ := m_chkE hf
        replace hf := m_calY hf p74
        obtain ⟨-, hf⟩ := m_chkE hf
        obtain ⟨-, hf⟩ := m_chkE hf
        obtain ⟨⟨y6, S6⟩, h_6, hf⟩ := m_calE hf
        obtain ⟨-, hf⟩ := m_chkE hf
        obtain ⟨-, hf⟩ := m_chkE hf
        have e : o = ((0, 1), S6) := (Option.some.inj hf).symm
        obtain ⟨tr6, F6⟩ := p_putFirst C4 hGG hw tr4 c14 h1 c3 hne h_6
        rcases V with ⟨v1, -⟩ | ⟨-, v2, -⟩ | ⟨-, F, v2, v3, ⟨k, k1, k2, k3, k4⟩, -⟩ | ⟨-, F, v2, v3, v4, v5, v6, v7, v8⟩
        · omega
        · exact absurd v2 hne
        · exact absurd k4 ((same F v2 v3).1 good k k1 k2 k3)
        · rw [e] at hs
          rw [e]
          refine ⟨fm_tr (T' := ldT T (tP T c).toNat c) C4 h5b w4 M4 hs F6 (fun a ha => Or.inl ha) tr6 v7 hw hl c3 rfl (fun j j0 _ => by rw [v6]; exact upd_ne j0) (fun j hj => v8 j (by omega) (by omega)), Or.inl ⟨rfl, by rw [v6]; exact upd_self, v5.symm⟩⟩
    · have heq : hdC T (tP T c).toNat = (c : Int) := by
        rcases q2 with ⟨-, q⟩ | ⟨q, -⟩
        · exact q
        · exact absurd (i32_of q) d2
      obtain ⟨-, hf⟩ := m_chkE hf
      have e : o = ((0, 0), S) := (Option.some.inj hf).symm
      rcases V with ⟨v1, -⟩ | ⟨-, -, e2⟩ | ⟨-, F, v2, v3, -⟩ | ⟨-, F, v2, v3, -⟩
      · omega
      · rw [e, e2] at hs
        rw [e, e2]
        exact ⟨fm_ke hC h5b hF0 hs ke_0 (show upd I 0 0 5 = I 5 from upd_ne (by decide)) (show upd I 0 0 6 = I 6 from upd_ne (by decide)) (fun _ _ _ => rfl) (fun _ _ _ _ _ _ w => qs_e w.2.2.2.2 rfl rfl (fun j hj => show upd I 0 0 j = I j from upd_ne (by omega))), Or.inl ⟨rfl, show upd I 0 0 0 = 0 from upd_self, rfl⟩⟩
      · omega
      · omega
end LED
