theorem zI_self (S : ZS) (j a : Nat) (v : Int32) : zI (zsI S j a v) j a = v := by
  show va_up (zI S) j (va_up (zI S j) a v) j a = v
  rw [va_up_self, va_up_self]
theorem zI_ne {S : ZS} {j a b : Nat} {v : Int32} (h : b ≠ a) : zI (zsI S j a v) j b = zI S j b := by
  show va_up (zI S) j (va_up (zI S j) a v) j b = zI S j b
  rw [va_up_self]; exact va_up_ne _ _ h
theorem ite_b {a b c d v : Int32} {x y z w : Int} (e : v = if a < b then c else d) (ha : a.toInt = x) (hb : b.toInt = y) (hc : c.toInt = z) (hd : d.toInt = w) : (x < y ∧ v.toInt = z) ∨ (y ≤ x ∧ v.toInt = w) := by
  by_cases h : a < b
  · rw [if_pos h] at e
    exact Or.inl ⟨ti_ltP h ha hb, by rw [e]; exact hc⟩
  · rw [if_neg h] at e
    exact Or.inr ⟨ti_ltN h ha hb, by rw [e]; exact hd⟩
theorem row_nz {S : ZS} {b : Nat} {n : Int} (d : b = 0 ∨ zK S b = 13) (l : n ≤ (zcap S b : Int)) (h : 0 < n) : zK S b = 13 ∧ n ≤ (zN S b : Int) := by
  by_cases e : b = 0
  · unfold zcap at l; rw [if_pos e] at l; omega
  · unfold zcap at l; rw [if_neg e] at l; exact ⟨d.resolve_left e, l⟩
theorem ti_inR {v : Int32} {m : Nat} {n : Int} (hm : n ≤ (m : Int)) (h1 : 0 ≤ v.toInt) (h2 : v.toInt < n) : ¬ (v < 0 ∨ m ≤ v.toNatClampNeg) := ti_in h1 (by omega)
theorem zSl_le : ∀ s, zSl.getD s 0 ≤ 30 := by
  intro s
  by_cases h : s < 29
  · have key : ∀ s, s < 29 → zSl.getD s 0 ≤ 30 := by decide
    exact key s h
  · have h2 : zSl[s]? = none := List.getElem?_eq_none (by show 29 ≤ s; omega)
    rw [List.getD_eq_getElem?_getD, h2]; decide
theorem ofN_b {n : Nat} (h : n ≤ 30) : (Int32.ofNat n).toInt = (n : Int) := Int32.toInt_ofNat_of_lt (by omega)
theorem t_f_J0_coder {x0 : Nat} {S : ZS} (h : x0 < 29) : f_J0_coder_7d493 x0 S = some (0, S) := by
  show f_J0_coder_7d493_0 x0 S = _
  unfold f_J0_coder_7d493_0
  have e1 : ∀ {β : Type} {a b : Option β}, m_if ((1 : Int32) = 0) a b = b := fun {β} {a b} => if_neg (by decide)
  have e2 : ∀ {β : Type} {k : Option β}, m_chk (x0 < zSn) k = k := fun {β} {k} => if_pos h
  rw [e1, e2]
  rfl
theorem t_f_J0_length_8abf5 {S : ZS} {x0 : Nat} (hT : ZT S) (r_x0 : x0 < 29) : Ok (f_J0_length_8abf5 x0 S) (fun o => o.2 = S ∧ ((0 : Int) ≤ o.1.toInt ∧ o.1.toInt ≤ (30 : Int)) ∧ (o.1.toInt = ((zSl.getD x0 0 : Nat) : Int))) := by
  show Ok (f_J0_length_8abf5_0 x0 S) _
  unfold f_J0_length_8abf5_0
  refine ok_chk r_x0 (ok_chk r_x0 ?_)
  refine ok_bnd (fun v1 e1 => ?_)
  refine ok_chk r_x0 ?_
  refine ok_calR (t_f_J0_coder r_x0) ?_
  refine ok_bnd (fun v3 e3 => ?_)
  have h1 := zSl_le x0
  have h2 : v3 = v1 := by
    rw [e3]
    have : ∀ x : Int32, x >>> ((0 : Int32) &&& 31) = x := fun x => by
      apply Int32.toBitVec_inj.mp
      show BitVec.sshiftRight x.toBitVec _ = x.toBitVec
      exact BitVec.sshiftRight_zero
    exact this v1
  have h3 : v3.toInt = ((zSl.getD x0 0 : Nat) : Int) := by rw [h2, e1]; exact ofN_b h1
  exact ok_ret ⟨rfl, by show 0 ≤ v3.toInt ∧ v3.toInt ≤ 30; omega, h3⟩
theorem t_f_J0_isLatin1 {x0 : Nat} {S : ZS} (h : x0 < 29) : f_J0_isLatin1_aae02 x0 S = some (1, S) := by
  show f_J0_isLatin1_aae02_0 x0 S = _
  unfold f_J0_isLatin1_aae02_0
  have e1 : ∀ {β : Type} {a b : Option β}, m_if ((1 : Int32) = 0) a b = b := fun {β} {a b} => if_neg (by decide)
  have e2 : ∀ {β : Type} {k : Option β}, m_chk (x0 < zSn) k = k := fun {β} {k} => if_pos h
  have e3 : ∀ {β : Type} {a b : Option β}, m_if ((0 : Int32) = 0) a b = a := fun {β} {a b} => if_pos rfl
  rw [e1, e2, e3]
  rfl
theorem t_f_J0_charAt_5068e {S : ZS} {x0 : Nat} {x1 : Int32} (hT : ZT S) (r_x0 : x0 < 29) (q0 : 0 ≤ x1.toInt ∧ x1.toInt < ((zSl.getD x0 0 : Nat) : Int)) : Ok (f_J0_charAt_5068e x0 x1 S) (fun o => o.2 = S ∧ ((0 : Int) ≤ o.1.toInt ∧ o.1.toInt ≤ (65535 : Int))) := by
  have h1 := zSl_le x0
  have hl : (Int32.ofNat (zSl.getD x0 0)).toInt = ((zSl.getD x0 0 : Nat) : Int) := ofN_b h1
  show Ok (f_J0_charAt_5068e_0 x0 x1 S) _
  unfold f_J0_charAt_5068e_0
  refine ok_chk r_x0 ?_
  refine ok_calR (t_f_J0_isLatin1 r_x0) ?_
  refine ok_ifF (show ¬ (1 : Int32) = 0 by decide) ?_
  refine ok_chk r_x0 ?_
  have key : Ok (f_J1_charAt_3b067 x0 x1 S) (fun o => o.2 = S ∧ ((0 : Int) ≤ o.1.toInt ∧ o.1.toInt ≤ (65535 : Int))) := by
    show Ok (f_J1_charAt_3b067_0 x0 x1 S) _
    unfold f_J1_charAt_3b067_0
    refine ok_chk r_x0 ?_
    refine ok_bnd (fun v1 e1 => ?_)
    have hc : f_J0_checkIndex_df160 x1 v1 S = some (0, S) := by
      have hc3 : f_J3_checkIndex_8e157 x1 v1 S = some (x1, S) := by
        show f_J3_checkIndex_8e157_0 x1 v1 S = _
        unfold f_J3_checkIndex_8e157_0
        have a1 : ¬ x1 < 0 := fun h => by have := ti_ltP h rfl (show (0 : Int32).toInt = 0 from rfl); omega
        have a2 : x1 < v1 := Int32.lt_iff_toInt_lt.mpr (by rw [e1, hl]; exact q0.2)
        have e2 : ∀ {β : Type} {a b : Option β}, m_if (x1 < 0) a b = b := fun {β} {a b} => if_neg a1
        have e3 : ∀ {β : Type} {a b : Option β}, m_if (x1 < v1) a b = a := fun {β} {a b} => if_pos a2
        rw [e2, e3]
      show m_cal (f_J3_checkIndex_8e157 x1 v1 S) _ = _
      rw [hc3]; rfl
    refine ok_calR hc ?_
    refine ok_chk r_x0 ?_
    refine ok_chk (ti_in q0.1 q0.2) ?_
    refine ok_bnd (fun v3 e3 => ?_)
    refine ok_bnd (fun v4 e4 => ?_)
    refine ok_bnd (fun v5 e5 => ?_)
    have t5 := nar_cb e5
    exact ok_chk (nar_c t5.1 t5.2) (ok_ret ⟨rfl, t5⟩)
  obtain ⟨r, h2, p⟩ := roz key
  dsimp only at p
  refine ok_calR h2 ?_
  exact ok_chk (nar_c (v := r) p.1 p.2) (ok_ret ⟨rfl, p⟩)
theorem t_f_J1_indexOfChar_7 {S : ZS} {x0 : Nat} (r_x0 : x0 < 29) : ∀ (n : Nat) (x3 x4 x5 : Int32), (0 ≤ x5.toInt ∧ x5.toInt ≤ 31) → x3.toInt ≤ ((zSl.getD x0 0 : Nat) : Int) → 32 - x5.toInt < (n : Int) → Ok (f_J1_indexOfChar_4cfef_7 n x0 x3 x4 x5 S) (fun o => o.2 = S ∧ ((-1 : Int) ≤ o.1.toInt ∧ o.1.toInt ≤ (29 : Int))) := by
  intro n
  induction n with
  | zero => intro x3 x4 x5 h1 h2 h3; omega
  | succ n ih =>
    intro x3 x4 x5 h1 h2 h3
    have hs := zSl_le x0
    show Ok (f_J1_indexOfChar_4cfef_7s (f_J1_indexOfChar_4cfef_7 n) x0 x3 x4 x5 S) _
    unfold f_J1_indexOfChar_4cfef_7s
    refine ok_if (fun _ => ok_ret ⟨rfl, by dsimp only; decide⟩) (fun c => ?_)
    replace c := ti_leN c rfl rfl
    refine ok_chk r_x0 ?_
    refine ok_chk (ti_in (by omega) (by omega)) ?_
    refine ok_bnd (fun v1 e1 => ?_)
    refine ok_if (fun _ => ok_ret ⟨rfl, by show -1 ≤ x5.toInt ∧ x5.toInt ≤ 29; omega⟩) (fun _ => ?_)
    refine ok_bnd (fun v2 e2 => ?_)
    have t2 := ti_add e2 rfl (show (1 : Int32).toInt = 1 from rfl) (by omega) (by omega)
    exact ih x3 x4 v2 (by omega) h2 (by omega)
theorem t_f_J0_indexOf_0f7a4 {S : ZS} {x0 : Nat} {x1 : Int32} (hT : ZT S) (r_x0 : x0 < 29) : Ok (f_J0_indexOf_0f7a4 x0 x1 S) (fun o => o.2 = S ∧ ((-1 : Int) ≤ o.1.toInt ∧ o.1.toInt ≤ (29 : Int))) := by
  have h1 := zSl_le x0
  have hl : (Int32.ofNat (zSl.getD x0 0)).toInt = ((zSl.getD x0 0 : Nat) : Int) := ofN_b h1
  have k1 : ∀ x3 : Int32, Ok (f_J1_indexOf_4cfef x0 x1 0 x3 S) (fun o => o.2 = S ∧ ((-1 : Int) ≤ o.1.toInt ∧ o.1.toInt ≤ (29 : Int))) := by
    intro x3
    show Ok (f_J1_indexOf_4cfef_0 x0 x1 0 x3 S) _
    unfold f_J1_indexOf_4cfef_0
    have hc : ∃ r, f_J1_canEncode_9a6ad x1 S = some (r, S) := by
      have : Ok (f_J1_canEncode_9a6ad_0 x1 S) (fun o => o.2 = S ∧ True) := by
        unfold f_J1_canEncode_9a6ad_0
        have c15 : Ok (f_J1_canEncode_9a6ad_15 S) (fun o => o.2 = S ∧ True) := ⟨(0, S), by unfold f_J1_canEncode_9a6ad_15 f_J1_canEncode_9a6ad_16; exact if_pos (by decide), rfl, trivial⟩
        have c16 : Ok (f_J1_canEncode_9a6ad_16 1 S) (fun o => o.2 = S ∧ True) := ⟨(1, S), by unfold f_J1_canEncode_9a6ad_16; exact if_pos (by decide), rfl, trivial⟩
        exact ok_if (fun _ => c15) (fun _ => ok_if (fun _ => c15) (fun _ => c16))
      obtain ⟨r, h2, -⟩ := roz this
      exact ⟨r, h2⟩
    obtain ⟨r, hr⟩ := hc
    refine ok_calR hr ?_
    refine ok_if (fun _ => ok_ret ⟨rfl, by dsimp only; decide⟩) (fun _ => ?_)
    refine ok_bnd (fun v2 e2 => ?_)
    have t2 : v2 = 0 := by rw [e2]; decide
    refine ok_chk r_x0 ?_
    refine ok_bnd (fun v3 e3 => ?_)
    refine ok_bnd (fun v4 e4 => ?_)
    have hv3 : v3.toInt = ((zSl.getD x0 0 : Nat) : Int) := by rw [e3]; exact hl
    have t4 := ite_b (a := v3) (b := x3) (c := v3) (d := x3) e4 hv3 rfl hv3 rfl
    refine ok_if (fun c => ?_) (fun _ => ok_ret ⟨rfl, by dsimp only; decide⟩)
    have k2 : Ok (f_J1_indexOfChar_4cfef x0 x1 v2 v4 S) (fun o => o.2 = S ∧ ((-1 : Int) ≤ o.1.toInt ∧ o.1.toInt ≤ (29 : Int))) := by
      show Ok (f_J1_indexOfChar_4cfef_0 x0 x1 v2 v4 S) _
      unfold f_J1_indexOfChar_4cfef_0
      refine ok_bnd (fun w1 _ => ?_)
      have z : (0 : Int32).toInt = 0 := rfl
      exact t_f_J1_indexOfChar_7 r_x0 mFuel v4 w1 v2 (by rw [t2, z]; decide) (by omega) (by rw [t2, z]; show (32 : Int) - 0 < ((200000 : Nat) : Int); omega)
    obtain ⟨q, h2, p⟩ := roz k2
    exact ok_calR h2 (ok_ret ⟨rfl, p⟩)
  show Ok (f_J0_indexOf_0f7a4_0 x0 x1 S) _
  unfold f_J0_indexOf_0f7a4_0
  refine ok_chk r_x0 ?_
  have k3 : Ok (f_J0_indexOf_7cf53 x0 x1 0 S) (fun o => o.2 = S ∧ ((-1 : Int) ≤ o.1.toInt ∧ o.1.toInt ≤ (29 : Int))) := by
    show Ok (f_J0_indexOf_7cf53_0 x0 x1 0 S) _
    unfold f_J0_indexOf_7cf53_0
    refine ok_chk r_x0 ?_
    refine ok_calR (t_f_J0_isLatin1 r_x0) ?_
    refine ok_ifF (show ¬ (1 : Int32) = 0 by decide) ?_
    refine ok_chk r_x0 (ok_chk r_x0 ?_)
    obtain ⟨r, h2, -⟩ := roz (t_f_J0_length_8abf5 hT r_x0)
    refine ok_calR h2 ?_
    obtain ⟨q, h3, p⟩ := roz (k1 r)
    exact ok_calR h3 (ok_ret ⟨rfl, p⟩)
  obtain ⟨q, h3, p⟩ := roz k3
  exact ok_calR h3 (ok_ret ⟨rfl, p⟩)
