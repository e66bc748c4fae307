theorem and63 (x : Int32) : ∃ f : Nat, f < 64 ∧ x &&& (63 : Int32) = nI f := by
  refine ⟨x.toBitVec.toNat % 64, Nat.mod_lt _ (by decide), ?_⟩
  apply Int32.toBitVec_inj.mp
  apply BitVec.eq_of_toNat_eq
  show (x.toBitVec &&& 63#32).toNat = (BitVec.ofNat 32 (x.toBitVec.toNat % 64)).toNat
  rw [BitVec.toNat_and]
  show x.toBitVec.toNat &&& (2 ^ 6 - 1) = _
  rw [Nat.and_two_pow_sub_one_eq_mod, BitVec.toNat_ofNat]
  exact (Nat.mod_eq_of_lt (by omega)).symm
theorem sh12 (x : Int32) : (x >>> ((12 : Int32) &&& 31)).toInt = x.toInt / 4096 := by
  have h : (x >>> ((12 : Int32) &&& 31)).toBitVec = x.toBitVec.sshiftRight 12 := rfl
  show (x >>> ((12 : Int32) &&& 31)).toBitVec.toInt = x.toBitVec.toInt / 4096
  rw [h, BitVec.toInt_sshiftRight, Int.shiftRight_eq_div_pow]
  rfl
theorem mv_all : ∀ a : Nat, a < 64 → ∀ b : Nat, b < 64 → nI (a + 64 * b) = (nI (a + 64 * b) &&& 63) + 64 * ((nI (a + 64 * b) >>> ((6 : Int32) &&& 31)) &&& 63) := by decide +kernel
theorem mv_of {x : Int32} (h : x >>> ((12 : Int32) &&& 31) = 0) : x = (x &&& 63) + 64 * ((x >>> ((6 : Int32) &&& 31)) &&& 63) := by
  have h1 := sh12 x
  have h0 : (0 : Int32).toInt = 0 := rfl
  rw [h, h0] at h1
  have h2 : ¬ x < 0 := by
    rw [Int32.lt_iff_toInt_lt, h0]
    omega
  have h5 : x.toNatClampNeg = x.toInt.toNat := rfl
  have h6 := mv_all (x.toNatClampNeg % 64) (by omega) (x.toNatClampNeg / 64) (by omega)
  rw [show x.toNatClampNeg % 64 + 64 * (x.toNatClampNeg / 64) = x.toNatClampNeg by omega] at h6
  rw [← i_of h2] at h6
  exact h6
/-- what the class says of one way over the board, and that the reference has its move if it says yes -/
def ckR (A : Nat → Nat → Int32) (S : ZS) (f t : Nat) : Bool := m_any (f_X0_reaches 107 (nI f) (nI t) S) (fun o => decide (zt o.2 = zt S ∧ zu o.2 = zu S) && (decide (o.1 = 0) || (decide (zK o.2 107 = 0) && (List.range 20).any (fun i => decide (A 32 i = nI f + 64 * nI t)) && m_any (f_X0_becomesAnother 107 (nI f) (nI t) o.2) (fun o6 => decide (o6.1 = 0) && decide (zt o6.2 = zt S ∧ zu o6.2 = zu S)))))
def G_r (_ : Nat → Int32) (A : Nat → Nat → Int32) (S : ZS) : Bool := (List.range 64).all (fun f => (List.range 64).all (fun t => ckR A S f t))
section LG
variable {I : Nat → Int32} {A : Nat → Nat → Int32} {S : ZS} {v1 : Int32}
theorem ckR_E {f t : Nat} (h : ckR A S f t = true) : ∃ o : Int32 × ZS, f_X0_reaches 107 (nI f) (nI t) S = some o ∧ (zt o.2 = zt S ∧ zu o.2 = zu S) ∧ (o.1 = 0 ∨ (zK o.2 107 = 0 ∧ (∃ i, i < 20 ∧ A 32 i = nI f + 64 * nI t) ∧ ∃ o6 : Int32 × ZS, f_X0_becomesAnother 107 (nI f) (nI t) o.2 = some o6 ∧ o6.1 = 0 ∧ zt o6.2 = zt S ∧ zu o6.2 = zu S)) := by
  obtain ⟨o, ho, h⟩ := m_anyE h
  have h' := (Bool.and_eq_true _ _).mp h
  refine ⟨o, ho, of_decide_eq_true h'.1, ?_⟩
  rcases (Bool.or_eq_true _ _).mp h'.2 with h1 | h1
  · exact Or.inl (of_decide_eq_true h1)
  · have h2 := (Bool.and_eq_true _ _).mp h1
    have h3 := (Bool.and_eq_true _ _).mp h2.1
    obtain ⟨i, hi, h4⟩ := List.any_eq_true.mp h3.2
    obtain ⟨o6, h6, h7⟩ := m_anyE h2.2
    have h8 := (Bool.and_eq_true _ _).mp h7
    exact Or.inr ⟨of_decide_eq_true h3.1, ⟨i, List.mem_range.mp hi, of_decide_eq_true h4⟩, o6, h6, of_decide_eq_true h8.1, of_decide_eq_true h8.2⟩
theorem legal_scan (i33 : I 33 = 20) (n : Nat) : ∀ j : Nat, j ≤ 20 → 20 < j + n → (∀ i, j ≤ i → i < 20 → A 32 i ≠ v1) → f_isLegal_4 n v1 0 (nI j) I A = some (0, (I, A)) := by
  induction n with
  | zero => intro j h1 h2; omega
  | succ n ih =>
    intro j h1 h2 hA
    show f_isLegal_4s (f_isLegal_4 n) v1 0 (nI j) I A = _
    unfold f_isLegal_4s
    by_cases hc : (20 : Int32) ≤ nI j
    · rw [i33, m_ifP hc]; rfl
    · have hj : j < 20 := Classical.byContradiction (fun h => hc (nI_le (a := 20) (b := j) (by omega) (by omega)))
      rw [i33, m_ifN hc, m_ifP rfl, m_chkP (nI_in (N := 2048) (by omega) (by decide)), m_bndS, nI_clamp (by omega), m_ifN (hA j (Nat.le_refl _) hj)]
      unfold f_isLegal_31
      rw [m_bndS, ← nI_succ]
      exact ih (j + 1) (by omega) (by omega) (fun i h3 h4 => hA i (by omega) h4)
theorem sr_legal (hF : FR I A) (hv : ∀ i, i < 20 → A 32 i ≠ v1) : f_isLegal v1 I A = some (0, (I, A)) := by
  obtain ⟨i1, i3, i5, i6, i33, a7, a12, a14, a18⟩ := hF
  exact legal_scan i33 mFuel 0 (by decide) (by decide) (fun i _ hi => hv i hi)
theorem sc_legal (hC : FC S) (hG : G_r I A S = true) (hv : ∀ i, i < 20 → A 32 i ≠ v1) : ∃ S1 : ZS, f_X7_isLegal 4 107 v1 S = some (0, S1) ∧ zt S1 = zt S ∧ zu S1 = zu S := by
  obtain ⟨k1, p0, p1, p2, p7, p9, i8, k2, i12, k3, i13, k4, k99, i99, j99, q99, k102, i102, q102, k103, i103, k107⟩ := id hC
  unfold f_X7_isLegal f_X7_isLegal_0
  rw [m_bndS, m_bndS, m_bndS, m_bndS]
  by_cases h1 : v1 >>> ((12 : Int32) &&& 31) < 0
  · rw [m_ifP h1]
    exact ⟨S, rfl, rfl, rfl⟩
  rw [m_ifN h1]
  by_cases h2 : v1 >>> ((12 : Int32) &&& 31) = 1
  · rw [m_ifP h2]
    exact ⟨S, rfl, rfl, rfl⟩
  rw [m_ifN h2]
  by_cases h3 : 5 < v1 >>> ((12 : Int32) &&& 31)
  · rw [m_ifP h3]
    exact ⟨S, rfl, rfl, rfl⟩
  rw [m_ifN h3, m_chkP k107]
  obtain ⟨f, hf, ef⟩ := and63 v1
  obtain ⟨t, ht, et⟩ := and63 (v1 >>> ((6 : Int32) &&& 31))
  have hr := ckR_E (List.all_eq_true.mp (List.all_eq_true.mp hG f (List.mem_range.mpr hf)) t (List.mem_range.mpr ht))
  obtain ⟨o, ho, hz, hd⟩ := hr
  rw [ef, et, ho, m_calS]
  rcases hd with hd | ⟨hk, ⟨i, hi, hA⟩, o6, h6, h60, hz6⟩
  · rw [m_ifP hd]
    exact ⟨o.2, rfl, hz⟩
  by_cases ho0 : o.1 = 0
  · rw [m_ifP ho0]
    exact ⟨o.2, rfl, hz⟩
  rw [m_ifN ho0, m_chkP hk, h6, m_calS]
  by_cases h4 : v1 >>> ((12 : Int32) &&& 31) = 0
  · have h5 := mv_of h4
    rw [ef, et] at h5
    exact absurd (hA.trans h5.symm) (hv i hi)
  · rw [m_ifN h4]
    unfold f_X7_isLegal_66
    rw [m_ifN (by rw [h60]; decide)]
    exact ⟨o6.2, rfl, hz6⟩
theorem sy_add (hF : FR I A) (hC : FC S) (hG : G_r I A S = true) (hv : ∀ i, i < 20 → A 32 i ≠ v1) : ckX S (f_add v1 I A) (d_X11_add 1 v1 S) tV tb_add = true := by
  obtain ⟨S1, hl, hz⟩ := sc_legal hC hG hv
  obtain ⟨k1, p0, p1, p2, p7, p9, i8, k2, i12, k3, i13, k4, k99, i99, j99, q99, k102, i102, q102, k103, i103, k107⟩ := id hC
  have hr : f_add v1 I A = some (0, (upd I 0 1, A)) := by
    unfold f_add f_add_0
    rw [sr_legal hF hv, m_clS, m_ifP rfl]
    unfold f_add_14
    rw [m_bndS, m_ifN (by rw [upd_1]; decide)]
  have hd : d_X11_add 1 v1 S = some ((1, 0), zsQ S1) := by
    unfold d_X11_add d_X11_add_0
    rw [m_chkP k1, p2, m_calS, m_chkP k1, p9, m_calS, m_chkP k4, hl, m_calS, m_chkP hz, m_ifP rfl]
  exact ckX_t hr hd hz (by decide) (upd_1 (c := 1)).symm (by rw [upd_1]; decide)
theorem sy_signs (hF : FR I A) (hC : FC S) (hG : G_r I A S = true) (hv : ∀ i, i < 20 → A 32 i ≠ v1) : ckX S (f_signs v1 I A) (d_X11_signs 1 v1 S) tV tb_signs = true := by
  obtain ⟨S1, hl, hz⟩ := sc_legal hC hG hv
  obtain ⟨k1, p0, p1, p2, p7, p9, i8, k2, i12, k3, i13, k4, k99, i99, j99, q99, k102, i102, q102, k103, i103, k107⟩ := id hC
  have hr : f_signs v1 I A = some (0, (upd I 0 1, A)) := by
    unfold f_signs f_signs_0
    rw [sr_legal hF hv, m_clS, m_ifP rfl]
    unfold f_signs_14
    rw [m_bndS, m_ifN (by rw [upd_1]; decide)]
  have hd : d_X11_signs 1 v1 S = some ((1, 0), zsQ S1) := by
    unfold d_X11_signs d_X11_signs_0
    rw [m_chkP k1, p2, m_calS, m_chkP k1, p9, m_calS, m_chkP k4, hl, m_calS, m_chkP hz, m_ifP rfl]
  exact ckX_t hr hd hz (by decide) (upd_1 (c := 1)).symm (by rw [upd_1]; decide)
end LG
