theorem t_isSafe_0  {I : Nat → Int32} {A : Nat → Nat → Int32} {x1 : Int32} (hI : TJ I) (hA : TK A) (r_x1 : (0 : Int) ≤ x1.toInt ∧ x1.toInt ≤ (24575 : Int)) (q0 : (I 29).toInt ≤ 1999) : Ok (f_isSafe_0 x1 I A) (fun o => TJ o.2.1 ∧ TK o.2.2 ∧ ((0 : Int) ≤ o.1.toInt ∧ o.1.toInt ≤ (1 : Int))) := by
  unfold f_isSafe_0
  refine ok_cl (o := (0, (I, nA I A))) rfl ?_
  have hA_Ac1 := tk_nA hI hA
  have fA_Ac1 : ∀ j, j ≠ 30 → j ≠ 31 → nA I A j = A j := fun j a b => nA_o a b
  have n4_Ac1 : nA I A 31 4 = I 29 := rfl
  generalize nA I A = Ac1 at hA_Ac1 fA_Ac1 n4_Ac1 ⊢
  have b_I_29 := tI_29 hI
  obtain ⟨⟨r2, Ic2, Ac2⟩, h_r2, hI_Ic2, hA_Ac2, p_r2_0⟩ := t_make (x1 := x1)  hI hA_Ac1 r_x1 (⟨Int.le_refl _, q0⟩ : (I 29).toInt ≤ (I 29).toInt ∧ (I 29).toInt ≤ 1999)
  replace hI_Ic2 : TJ Ic2 := hI_Ic2
  replace hA_Ac2 : TK Ac2 := hA_Ac2
  dsimp only at p_r2_0
  refine ok_clR h_r2 ?_
  refine ok_bnd (fun v3 e1 => ?_)
  have b_Ic2_25 := tI_25 hI_Ic2
  have t_v3 : v3.toInt = 1 - (Ic2 25).toInt := ti_sub e1 (show (1 : Int32).toInt = 1 from rfl) rfl (by omega) (by omega)
  obtain ⟨r4, h_r4, p_r4⟩ := ro (t_isInCheck (x1 := v3)  hI_Ic2 hA_Ac2 (by omega))
  refine ok_clR h_r4 ?_
  dsimp only at p_r4
  refine ok_if (fun c2 => ?_) (fun c2 => ?_)
  ·
    replace c2 := ti_eqP c2 rfl (show (0 : Int32).toInt = 0 from rfl)
    unfold f_isSafe_27
    refine ok_cl (o := (0, (nB Ic2 Ac2, va_up Ac2 24 (Ac2 30)))) rfl ?_
    have hI_Ic1 := tj_nB hI_Ic2 hA_Ac2
    have hA_Ac1 := tk_bb hA_Ac2
    have n29_Ic1 : nB Ic2 Ac2 29 = Ac2 31 4 := rfl
    generalize nB Ic2 Ac2 = Ic1 at hI_Ic1 n29_Ic1 ⊢
    have fA_Ac1 : ∀ j, j ≠ 24 → va_up Ac2 24 (Ac2 30) j = Ac2 j := fun j a => va_up_ne _ _ a
    generalize va_up Ac2 24 (Ac2 30) = Ac1 at hA_Ac1 fA_Ac1 ⊢
    refine ok_chk (by decide) ?_
    exact ok_ret ⟨hI_Ic1, hA_Ac1, (show (0 : Int) ≤ (1 : Int32).toInt ∧ (1 : Int32).toInt ≤ (1 : Int) from (by decide))⟩
  ·
    replace c2 := ti_eqN c2 rfl (show (0 : Int32).toInt = 0 from rfl)
    unfold f_isSafe_27
    refine ok_cl (o := (0, (nB Ic2 Ac2, va_up Ac2 24 (Ac2 30)))) rfl ?_
    have hI_Ic1 := tj_nB hI_Ic2 hA_Ac2
    have hA_Ac1 := tk_bb hA_Ac2
    have n29_Ic1 : nB Ic2 Ac2 29 = Ac2 31 4 := rfl
    generalize nB Ic2 Ac2 = Ic1 at hI_Ic1 n29_Ic1 ⊢
    have fA_Ac1 : ∀ j, j ≠ 24 → va_up Ac2 24 (Ac2 30) j = Ac2 j := fun j a => va_up_ne _ _ a
    generalize va_up Ac2 24 (Ac2 30) = Ac1 at hA_Ac1 fA_Ac1 ⊢
    refine ok_chk (by decide) ?_
    exact ok_ret ⟨hI_Ic1, hA_Ac1, (show (0 : Int) ≤ (0 : Int32).toInt ∧ (0 : Int32).toInt ≤ (1 : Int) from (by decide))⟩
theorem t_isSafe {I : Nat → Int32} {A : Nat → Nat → Int32} {x1 : Int32} (hI : TJ I) (hA : TK A) (r_x1 : (0 : Int) ≤ x1.toInt ∧ x1.toInt ≤ (24575 : Int)) (q0 : (I 29).toInt ≤ 1999) : ∃ r : Int32, f_isSafe x1 I A = some (r, (I, nA I A)) ∧ ((0 : Int) ≤ r.toInt ∧ r.toInt ≤ (1 : Int)) := by
  obtain ⟨⟨r, I', A'⟩, h, -, -, p⟩ := t_isSafe_0 hI hA r_x1 q0
  have h' : f0_isSafe x1 I A = some (r, (I', A')) := h
  refine ⟨r, ?_, p⟩
  show m_cl (f0_isSafe x1 I A) _ = _
  rw [h']
  rfl
