def SLs (A0 : Nat → Nat → Int32) (gg : Nat) (I : Nat → Int32) (A : Nat → Nat → Int32) : Prop := TJ I ∧ TK A ∧ (I 5).toInt = (gg : Int) ∧ A 8 = A0 8 ∧ A 9 = A0 9 ∧ A 10 = A0 10 ∧ A 11 = A0 11
def sm (len : Nat → Nat) : List Nat → Int
  | [] => 0
  | o :: l => 258 * (1 + (len o : Int)) + sm len l
theorem sm_nn {len : Nat → Nat} : ∀ l, 0 ≤ sm len l
  | [] => Int.le_refl _
  | o :: l => by have := sm_nn (len := len) l; show 0 ≤ 258 * (1 + (len o : Int)) + sm len l; omega
theorem sm_dsc {L : Nat → List Nat} {m : Nat} : ∀ l : List Nat, 258 * ((l.flatMap (fun x => x :: dsc L m x)).length : Int) = sm (fun x => (dsc L m x).length) l
  | [] => rfl
  | o :: l => by
    have ih := sm_dsc (L := L) (m := m) l
    rw [List.flatMap_cons, List.length_append, List.length_cons]
    show _ = 258 * (1 + ((dsc L m o).length : Int)) + sm _ l
    rw [← ih]
    omega
theorem ink_S {A0 : Nat → Nat → Int32} {gg : Nat} {x1 : Int32} {I : Nat → Int32} {A : Nat → Nat → Int32} {γ : Type} {k : Int32 → (Nat → Int32) → (Nat → Nat → Int32) → Option γ} {Q : γ → Prop} (hS : SLs A0 gg I A) (hc : (I 3).toInt ≤ 79999) (hk : ∀ r I' A', SLs A0 gg I' A' → (I' 3).toInt = (I 3).toInt + 1 → Ok (k r I' A') Q) : Ok (m_cl (f_ink x1 I A) k) Q := by
  obtain ⟨⟨r, I', A'⟩, h, hI', hA', p⟩ := t_ink (x1 := x1) hS.1 hS.2.1 hc
  have f := fw_ink h
  refine ok_clR h (hk r I' A' ⟨hI', hA', ?_, (f.2 8 (by decide)).trans hS.2.2.2.1, (f.2 9 (by decide)).trans hS.2.2.2.2.1, (f.2 10 (by decide)).trans hS.2.2.2.2.2.1, (f.2 11 (by decide)).trans hS.2.2.2.2.2.2⟩ p)
  have e : I' 5 = I 5 := f.1 5 (by decide)
  rw [e]; exact hS.2.2.1
theorem mF_succ : ∃ f : Nat, mFuel = f + 1 ∧ 1000 ≤ f := ⟨199999, rfl, by decide⟩
section SL
variable {A0 : Nat → Nat → Int32} {gg N : Nat} {L : Nat → List Nat} {D : Nat → Nat}
theorem SLs_n {I : Nat → Int32} {A : Nat → Nat → Int32} (hb : TTb N (aP A0 gg) (aM A0 gg)) (hS : SLs A0 gg I A) : TRn A gg N := by
  intro k h1 h2
  unfold aP aM
  rw [hS.2.2.2.1, hS.2.2.2.2.1]
  exact hb k h1 h2
theorem sl_8s (hb : TTb N (aP A0 gg) (aM A0 gg)) (hN : N ≤ 300) {rec : Int32 → Int32 → (Nat → Int32) → (Nat → Nat → Int32) → Option (Int32 × MS)} {self8 : Int32 → Int32 → Int32 → (Nat → Int32) → (Nat → Nat → Int32) → Option (Int32 × MS)} {x3 x4 x5 : Int32} {I : Nat → Int32} {A : Nat → Nat → Int32} {Q : Int32 × MS → Prop} {k : Nat} {c : Int} (hx : x3.toInt = (k : Int)) (h1 : 1 ≤ k) (h2 : k ≤ N) (h4 : 0 ≤ x4.toInt ∧ x4.toInt ≤ 1) (hS : SLs A0 gg I A) (h3 : (I 3).toInt ≤ c) (hc : c ≤ 79400)
    (cont : ∀ (t0 x6 : Int32) (I' : Nat → Int32) (A' : Nat → Nat → Int32), SLs A0 gg I' A' → (I' 3).toInt ≤ c + 254 → x6.toInt = 301 * (gg : Int) + (k : Int) → (0 ≤ t0.toInt ∧ t0.toInt ≤ 1) → Ok (f_sayLine_46 rec self8 x5 x6 t0 I' A') Q) : Ok (f_sayLine_8s rec self8 x3 x4 x5 I A) Q := by
  have b5 := tI_5 hS.1
  have h5 := hS.2.2.1
  unfold f_sayLine_8s
  refine ok_ifF (fun h => by have := ti_ltP h rfl (show (0 : Int32).toInt = 0 from rfl); omega) ?_
  refine ok_bnd (fun v1 e1 => ?_)
  have t1 := ti_mul e1 (show (301 : Int32).toInt = 301 from rfl) h5 (by omega) (by omega)
  refine ok_bnd (fun v2 e2 => ?_)
  have t2 := ti_add e2 t1 hx (by omega) (by omega)
  obtain ⟨⟨r, I', A'⟩, h, hI', hA', p⟩ := t_sayMove (x1 := x3) (x2 := x4) (gg := gg) (nn := N) (cc := c) hS.1 hS.2.1 (by omega) (by omega) (SLs_n hb hS) h5 (by omega) (by omega)
  dsimp only at p
  have f := fw_sayMove h
  have hS' : SLs A0 gg I' A' := ⟨hI', hA', by have e : I' 5 = I 5 := f.1 5 (by decide)
                                              rw [e]; exact h5, (f.2 8 (by decide)).trans hS.2.2.2.1, (f.2 9 (by decide)).trans hS.2.2.2.2.1, (f.2 10 (by decide)).trans hS.2.2.2.2.2.1, (f.2 11 (by decide)).trans hS.2.2.2.2.2.2⟩
  refine ok_clR h ?_
  refine ok_chk (ti_in (by omega) (by omega)) ?_
  refine ok_bnd (fun v4 e4 => ?_)
  refine ok_if (fun _ => ?_) (fun _ => ?_)
  · exact cont _ _ _ _ hS' p t2 (by decide)
  · exact cont _ _ _ _ hS' p t2 (by decide)
theorem sl_66 {len : Nat → Nat} (hN : N ≤ 300) (hg : gg ≤ 1) {rec : Int32 → Int32 → (Nat → Int32) → (Nat → Nat → Int32) → Option (Int32 × MS)} {self8 : Int32 → Int32 → Int32 → (Nat → Int32) → (Nat → Nat → Int32) → Option (Int32 × MS)} {Q : Int32 × MS → Prop} {k : Nat} (hk : k ≤ N) : ∀ (l : List Nat) (n : Nat) (x4 x6 x7 : Int32) (I : Nat → Int32) (A : Nat → Nat → Int32) (c : Int), chn (aN A0 gg) l x7.toInt → (∀ o ∈ l, 1 ≤ o ∧ o ≤ N) → l.length < n → (0 ≤ x4.toInt ∧ x4.toInt ≤ 1) → x6.toInt = 301 * (gg : Int) + (k : Int) → SLs A0 gg I A → (I 3).toInt ≤ c → c + sm len l ≤ 79396 →
    (∀ o ∈ l, ∀ (x : Int32) (I' : Nat → Int32) (A' : Nat → Nat → Int32) (c' : Int), x.toInt = (o : Int) → SLs A0 gg I' A' → (I' 3).toInt ≤ c' → c' + 255 + 258 * (len o : Int) ≤ 79396 → Ok (rec x 0 I' A') (fun q => SLs A0 gg q.2.1 q.2.2 ∧ (q.2.1 3).toInt ≤ c' + 255 + 258 * (len o : Int))) →
    (∀ (v x4' : Int32) (I' : Nat → Int32) (A' : Nat → Nat → Int32), SLs A0 gg I' A' → (I' 3).toInt ≤ c + sm len l + 1 → v.toInt = aC A0 gg k → (0 ≤ x4'.toInt ∧ x4'.toInt ≤ 1) → Ok (self8 v x4' 1 I' A') Q) → Ok (f_sayLine_66 rec self8 n x4 x6 x7 I A) Q := by
  intro l
  induction l with
  | nil =>
    intro n x4 x6 x7 I A c hch hl hn h4 h6 hS h3 hc hrec hself
    cases n with
    | zero => omega
    | succ n =>
      have h7 : x7.toInt = -1 := hch
      have e0 : sm len ([] : List Nat) = 0 := rfl
      show Ok (f_sayLine_66s rec self8 (f_sayLine_66 rec self8 n) x4 x6 x7 I A) Q
      unfold f_sayLine_66s
      refine ok_ifT (Int32.lt_iff_toInt_lt.mpr (by rw [h7]; decide)) ?_
      refine ok_chk (ti_in (by omega) (by omega)) ?_
      refine ok_bnd (fun v1 e1 => ?_)
      have i6 : x6.toNatClampNeg = 301 * gg + k := by have := ti_nc (a := x6) (by omega); omega
      have w1 : v1.toInt = aC A0 gg k := by rw [e1, i6, hS.2.2.2.2.2.1]; rfl
      refine ok_if (fun _ => ?_) (fun _ => ?_)
      · exact hself v1 x4 I A hS (by omega) w1 h4
      · exact ink_S hS (by omega) (fun r I' A' hS' h3' => hself v1 x4 I' A' hS' (by omega) w1 h4)
  | cons o l ih =>
    intro n x4 x6 x7 I A c hch hl hn h4 h6 hS h3 hc hrec hself
    cases n with
    | zero => exact absurd hn (Nat.not_lt_zero _)
    | succ n =>
      have h7 : x7.toInt = (o : Int) := hch.1
      have ho := hl o List.mem_cons_self
      have e0 : sm len (o :: l) = 258 * (1 + (len o : Int)) + sm len l := rfl
      have snn := sm_nn (len := len) l
      show Ok (f_sayLine_66s rec self8 (f_sayLine_66 rec self8 n) x4 x6 x7 I A) Q
      unfold f_sayLine_66s
      refine ok_ifF (fun h => by have := ti_ltP h rfl (show (0 : Int32).toInt = 0 from rfl); omega) ?_
      refine ink_S hS (by omega) (fun r1 I1 A1 hS1 h31 => ?_)
      refine ink_S hS1 (by omega) (fun r2 I2 A2 hS2 h32 => ?_)
      obtain ⟨⟨r3, I3, A3⟩, h, hS3, h33⟩ := hrec o List.mem_cons_self x7 I2 A2 (c + 2) h7 hS2 (by omega) (by omega)
      replace hS3 : SLs A0 gg I3 A3 := hS3
      replace h33 : (I3 3).toInt ≤ c + 2 + 255 + 258 * (len o : Int) := h33
      refine ok_clR h ?_
      refine ink_S hS3 (by omega) (fun r4 I4 A4 hS4 h34 => ?_)
      have h5 := hS4.2.2.1
      refine ok_bnd (fun v7 e7 => ?_)
      have t7 := ti_mul e7 (show (301 : Int32).toInt = 301 from rfl) h5 (by omega) (by omega)
      refine ok_bnd (fun v8 e8 => ?_)
      have t8 := ti_add e8 t7 h7 (by omega) (by omega)
      refine ok_chk (ti_in (by omega) (by omega)) ?_
      refine ok_bnd (fun v9 e9 => ?_)
      have i8 : v8.toNatClampNeg = 301 * gg + o := by have := ti_nc (a := v8) (by omega); omega
      have w9 : v9.toInt = aN A0 gg o := by rw [e9, i8, hS4.2.2.2.2.2.2]; rfl
      refine ih n 1 x6 v9 I4 A4 (c + 258 * (1 + (len o : Int))) (by rw [w9]; exact hch.2) (fun j hj => hl j (List.mem_cons_of_mem _ hj)) (by simp only [List.length_cons] at hn; omega) (by decide) h6 hS4 (by omega) (by omega) (fun j hj => hrec j (List.mem_cons_of_mem _ hj)) (fun v x4' I' A' hS' h3' hv hx => hself v x4' I' A' hS' (by omega) hv hx)
theorem sl_main (hN : N ≤ 300) (hg : gg ≤ 1) (hb : TTb N (aP A0 gg) (aM A0 gg)) (hl : TTl N (aP A0 gg) (aC A0 gg) (aN A0 gg) L) (hd : TTd N (aP A0 gg) (aC A0 gg) D) : ∀ (m p : Nat), p ≤ N → N < p + m → ∀ (r : Nat), 7 ≤ r + D p → ∀ (f : Nat), N < p + f → ∀ (x3 x4 : Int32) (I : Nat → Int32) (A : Nat → Nat → Int32) (c : Int), x3.toInt = aC A0 gg p → (0 ≤ x4.toInt ∧ x4.toInt ≤ 1) → SLs A0 gg I A → (I 3).toInt ≤ c → c + 258 * ((dsc L m p).length : Int) ≤ 79400 → Ok (f_sayLine_8 (fr_sayLine r) f x3 x4 1 I A) (fun q => SLs A0 gg q.2.1 q.2.2 ∧ (q.2.1 3).toInt ≤ c + 258 * ((dsc L m p).length : Int)) := by
  intro m
  induction m with
  | zero => intro p h1 h2; omega
  | succ m ih =>
    intro p hp hm r hr f hf x3 x4 I A c hx h4 hS h3 hc
    have hLp := hl p hp
    have hsum : 258 * ((dsc L (m + 1) p).length : Int) = sm (fun x => (dsc L m x).length) (L p) := sm_dsc (L p)
    cases f with
    | zero => omega
    | succ f =>
      show Ok (f_sayLine_8s (fr_sayLine r) (f_sayLine_8 (fr_sayLine r) f) x3 x4 1 I A) _
      cases hL : L p with
      | nil =>
        rw [hL] at hLp
        have hC : aC A0 gg p = -1 := hLp.1
        unfold f_sayLine_8s
        refine ok_ifT (Int32.lt_iff_toInt_lt.mpr (by rw [hx, hC]; decide)) (ok_ret ⟨hS, ?_⟩)
        show (I 3).toInt ≤ _
        omega
      | cons F l =>
        rw [hL] at hLp hsum
        have hC : aC A0 gg p = (F : Int) := hLp.1.1
        have hmem : ∀ o ∈ F :: l, 1 ≤ o ∧ o ≤ N ∧ aP A0 gg o = (p : Int) := fun o ho => (hLp.2.2 o).mp ho
        have hF := hmem F List.mem_cons_self
        have hFp := (hb F hF.1 hF.2.1).1
        have hlen : (F :: l).length ≤ N := by have := chn_len hl hp; rw [hL] at this; exact this
        simp only [List.length_cons] at hlen
        have e0 : sm (fun x => (dsc L m x).length) (F :: l) = 258 * (1 + ((dsc L m F).length : Int)) + sm (fun x => (dsc L m x).length) l := rfl
        have snn := sm_nn (len := fun x => (dsc L m x).length) l
        have dF : D F = D p := by
          have h5 := hd.2.1 F hF.1 hF.2.1
          have e : (aP A0 gg F).toNat = p := by omega
          rw [e, if_pos hC] at h5; omega
        refine sl_8s hb hN (k := F) (c := c) (by rw [hx, hC]) hF.1 hF.2.1 h4 hS h3 (by omega) (fun t0 x6 I' A' hS' h3' h6 ht => ?_)
        unfold f_sayLine_46
        refine ok_ifF (by decide) ?_
        have hg1 := hS'.2.2.1
        refine ok_chk (ti_in (by omega) (by omega)) ?_
        refine ok_bnd (fun v1 e1 => ?_)
        have i6 : x6.toNatClampNeg = 301 * gg + F := by have := ti_nc (a := x6) (by omega); omega
        have w1 : v1.toInt = aN A0 gg F := by rw [e1, i6, hS'.2.2.2.2.2.2]; rfl
        show Ok (f_sayLine_66 (fr_sayLine r) (f_sayLine_8 (fr_sayLine r) f) mFuel t0 x6 v1 I' A') _
        refine sl_66 (len := fun x => (dsc L m x).length) hN hg (k := F) hF.2.1 l mFuel t0 x6 v1 I' A' (c + 254) (by rw [w1]; exact hLp.1.2) (fun o ho => by have := hmem o (List.mem_cons_of_mem _ ho); omega) (by show _ < 200000; omega) ht h6 hS' h3' (by omega) (fun o ho x I2 A2 c2 hxo hS2 h32 hc2 => ?_) (fun v x4' I2 A2 hS2 h32 hv hx4 => ?_)
        · have hom := hmem o (List.mem_cons_of_mem _ ho)
          have hop := (hb o hom.1 hom.2.1).1
          have hoF : o ≠ F := fun e => by
            have := (List.nodup_cons.mp hLp.2.1).1
            exact this (e ▸ ho)
          have dO : D o = D p + 1 := by
            have h5 := hd.2.1 o hom.1 hom.2.1
            have e : (aP A0 gg o).toNat = p := by omega
            rw [e, if_neg (by rw [hC]; omega)] at h5; exact h5
          have d6 := hd.2.2 o hom.2.1
          cases r with
          | zero => omega
          | succ r =>
            have e9 : fr_sayLine (r + 1) x 0 I2 A2 = f_sayLine_8 (fr_sayLine r) mFuel x 1 0 I2 A2 := rfl
            obtain ⟨f9, hf9, hf9'⟩ := mF_succ
            rw [e9, hf9]
            show Ok (f_sayLine_8s (fr_sayLine r) (f_sayLine_8 (fr_sayLine r) f9) x 1 0 I2 A2) _
            refine sl_8s hb hN (k := o) (c := c2) hxo hom.1 hom.2.1 (by decide) hS2 h32 (by omega) (fun t0 x6 I3 A3 hS3 h33 h63 ht3 => ?_)
            unfold f_sayLine_46
            refine ok_ifT (by decide) ?_
            show Ok (f_sayLine_66 (fr_sayLine r) (f_sayLine_8 (fr_sayLine r) f9) mFuel t0 x6 (-1) I3 A3) _
            refine sl_66 (len := fun x => (dsc L m x).length) hN hg (k := o) hom.2.1 [] mFuel t0 x6 (-1) I3 A3 (c2 + 254) (show (-1 : Int32).toInt = -1 from rfl) (fun _ h => by cases h) (by show 0 < 200000; omega) ht3 h63 hS3 h33 (by show c2 + 254 + 0 ≤ 79396; omega) (fun _ h => by cases h) (fun v x4' I4 A4 hS4 h34 hv hx4 => ?_)
            have h34' : (I4 3).toInt ≤ c2 + 254 + 0 + 1 := h34
            exact ok_mono (ih o hom.2.1 (by omega) r (by omega) f9 (by omega) v x4' I4 A4 (c2 + 255) hv hx4 hS4 (by omega) (by omega)) (fun q hq => ⟨hq.1, by have := hq.2; omega⟩)
        · exact ok_mono (ih F hF.2.1 (by omega) r (by omega) f (by omega) v x4' I2 A2 (c + 254 + sm (fun x => (dsc L m x).length) l + 1) hv hx4 hS2 h32 (by omega)) (fun q hq => ⟨hq.1, by have := hq.2; omega⟩)
end SL
theorem t_sayLine {gg : Nat} {I : Nat → Int32} {A : Nat → Nat → Int32} {x1 x2 : Int32} {cc : Int} (hI : TJ I) (hA : TK A) (q0 : TRE A gg) (q1 : (I 5).toInt = (gg : Int)) (q2 : x1.toInt = aC A gg 0) (q3 : x2.toInt = 1) (q4 : (I 3).toInt ≤ cc ∧ cc ≤ 2000) : Ok (f_sayLine x1 x2 I A) (fun o => TJ o.2.1 ∧ TK o.2.2 ∧ ((o.2.1 3).toInt ≤ cc + 77400)) := by
  obtain ⟨hb, L, D, hl, hd⟩ := q0
  have hN := aK_le (g := gg) hA
  have b5 := tI_5 hI
  have hlen := dsc_len hb hl (aK A gg + 1)
  have hx2 : x2 = 1 := Int32.toInt_inj.mp q3
  subst hx2
  have key := sl_main (A0 := A) (gg := gg) hN (by omega) hb hl hd (aK A gg + 1) 0 (Nat.zero_le _) (by omega) 7 (by rw [hd.1]; omega) mFuel (by show _ < 0 + 200000; omega) x1 1 I A cc q2 (by decide) ⟨hI, hA, q1, rfl, rfl, rfl, rfl⟩ q4.1 (by omega)
  exact ok_mono (show Ok (f_sayLine x1 1 I A) _ from key) (fun q hq => ⟨hq.1.1, hq.1.2.1, by have := hq.2; omega⟩)
