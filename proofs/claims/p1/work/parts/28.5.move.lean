theorem nI_sub {a b : Nat} (h : b ≤ a) : nI a - nI b = nI (a - b) := by
  have h1 : nI a = nI (a - b) + nI b := by rw [nI_add, Nat.sub_add_cancel h]
  rw [h1]
  exact Int32.add_sub_cancel _ _
theorem nI_nm1 {n : Nat} (h : n < 2 ^ 31) : nI n ≠ -1 := fun e => by
  have h1 := nI_toInt h
  rw [e] at h1
  have h2 : (-1 : Int32).toInt = -1 := rfl
  omega
theorem nI_mul (a b : Nat) : nI a * nI b = nI (a * b) := (Int32.ofNat_mul a b).symm
/-- a scan that ends without an answer does so for every larger number -/
def LmP (self : Nat → Nat → Int32 → Int32 → ZS → Option (Int32 × ZS)) : Prop := ∀ (x0 x1 a c c' : Nat) (S : ZS) (o : Int32 × ZS), a ≤ 64 → c ≤ c' → c' < 2 ^ 31 → self x0 x1 (nI c) (nI a) S = some o → o.1 = -1 → self x0 x1 (nI c') (nI a) S = some o
theorem lgm_75 {self11 : Nat → Nat → Int32 → Int32 → ZS → Option (Int32 × ZS)} {self21 : Nat → Nat → Int32 → Int32 → Int32 → ZS → Option (Int32 × ZS)} {x0 x1 a b c c' k m : Nat} {S : ZS} {o : Int32 × ZS} (hb : b < 64) (hm : m < 4096) (hk : k = 1 ∨ k = 4) (hc : c ≤ c') (hc' : c' < 2 ^ 31) (ih : ∀ (c c' : Nat), c ≤ c' → c' < 2 ^ 31 → self21 x0 x1 (nI c) (nI a) (nI (b + 1)) S = some o → o.1 = -1 → self21 x0 x1 (nI c') (nI a) (nI (b + 1)) S = some o) (hf : f_X7_legalMove_75 self11 self21 x0 x1 (nI c) (nI a) (nI b) (nI m) (nI k) S = some o) (ho : o.1 = -1) : f_X7_legalMove_75 self11 self21 x0 x1 (nI c') (nI a) (nI b) (nI m) (nI k) S = some o := by
  have hk4 : k ≤ 4 := by omega
  unfold f_X7_legalMove_75 at hf ⊢
  rcases m_ifE hf with ⟨h1, hf⟩ | ⟨h1, hf⟩
  · have h2 : k ≤ c := (nI_leI (by omega) (by omega)).mp h1
    rw [m_ifP (nI_le (by omega : k ≤ c') hc'), m_bndS, nI_sub (by omega)]
    obtain ⟨w, ew, hf⟩ := m_bndE hf
    rw [nI_sub h2] at ew
    rw [ew] at hf
    unfold f_X7_legalMove_110 at hf ⊢
    obtain ⟨w2, ew2, hf⟩ := m_bndE hf
    rw [nI_1] at ew2
    rw [ew2] at hf
    rw [m_bndS, nI_1]
    exact ih (c - k) (c' - k) (by omega) (by omega) hf ho
  · have h2 : c < k := Classical.byContradiction (fun h => h1 (nI_le (by omega) (by omega)))
    rcases m_ifE hf with ⟨-, hf⟩ | ⟨-, hf⟩
    · unfold f_X7_legalMove_104 at hf
      cases hf
      exact absurd ho (nI_nm1 (by omega))
    · obtain ⟨w1, ew1, hf⟩ := m_bndE hf
      obtain ⟨w2, ew2, hf⟩ := m_bndE hf
      obtain ⟨w3, ew3, hf⟩ := m_bndE hf
      have e1 : w1 = nI (2 + c) := ew1.trans (nI_add 2 c)
      have e2 : w2 = nI (4096 * (2 + c)) := by rw [ew2, e1]; exact nI_mul 4096 (2 + c)
      have e3 : w3 = nI (m + 4096 * (2 + c)) := by rw [ew3, e2]; exact nI_add _ _
      unfold f_X7_legalMove_104 at hf
      cases hf
      rw [e3] at ho
      exact absurd ho (nI_nm1 (by omega))
theorem lgm_21 {self11 : Nat → Nat → Int32 → Int32 → ZS → Option (Int32 × ZS)} (hs : LmP self11) (n : Nat) : ∀ (x0 x1 a b c c' : Nat) (S : ZS) (o : Int32 × ZS), a < 64 → b ≤ 64 → c ≤ c' → c' < 2 ^ 31 → f_X7_legalMove_21 self11 n x0 x1 (nI c) (nI a) (nI b) S = some o → o.1 = -1 → f_X7_legalMove_21 self11 n x0 x1 (nI c') (nI a) (nI b) S = some o := by
  induction n with
  | zero => intro x0 x1 a b c c' S o _ _ _ _ hf; cases hf
  | succ n ih =>
    intro x0 x1 a b c c' S o ha hb hc hc' hf ho
    replace hf : f_X7_legalMove_21s self11 (f_X7_legalMove_21 self11 n) x0 x1 (nI c) (nI a) (nI b) S = some o := hf
    show f_X7_legalMove_21s self11 (f_X7_legalMove_21 self11 n) x0 x1 (nI c') (nI a) (nI b) S = some o
    unfold f_X7_legalMove_21s at hf ⊢
    rcases m_ifE hf with ⟨h1, hf⟩ | ⟨h1, hf⟩
    · rw [m_ifP h1, m_bndS, nI_1]
      obtain ⟨w, ew, hf⟩ := m_bndE hf
      rw [nI_1] at ew
      rw [ew] at hf
      exact hs x0 x1 (a + 1) c c' S o (by omega) hc hc' hf ho
    · have hb4 : b < 64 := Classical.byContradiction (fun h => h1 (nI_le (a := 64) (b := b) (by omega) (by omega)))
      have step : ∀ (S : ZS), f_X7_legalMove_110 self11 (f_X7_legalMove_21 self11 n) x0 x1 (nI c) (nI a) (nI b) S = some o → f_X7_legalMove_110 self11 (f_X7_legalMove_21 self11 n) x0 x1 (nI c') (nI a) (nI b) S = some o := by
        intro S hf
        unfold f_X7_legalMove_110 at hf ⊢
        obtain ⟨w, ew, hf⟩ := m_bndE hf
        rw [nI_1] at ew
        rw [ew] at hf
        rw [m_bndS, nI_1]
        exact ih x0 x1 a (b + 1) c c' S o ha (by omega) hc hc' hf ho
      have hv2 : (64 : Int32) * nI b = nI (64 * b) := nI_mul 64 b
      rw [m_ifN h1, m_bndS, m_bndS]
      obtain ⟨w2, ew2, hf⟩ := m_bndE hf
      obtain ⟨w3, ew3, hf⟩ := m_bndE hf
      have e3 : w3 = nI (a + 64 * b) := by rw [ew3, ew2, hv2]; exact nI_add _ _
      have e3' : nI a + (64 : Int32) * nI b = nI (a + 64 * b) := by rw [hv2]; exact nI_add _ _
      rw [e3']
      rw [e3] at hf
      obtain ⟨hk, hf⟩ := m_chkE hf
      obtain ⟨o4, h4, hf⟩ := m_calE hf
      rw [m_chkP hk, h4, m_calS]
      rcases m_ifE hf with ⟨h5, hf⟩ | ⟨h5, hf⟩
      · rw [m_ifP h5]
        exact step _ hf
      rw [m_ifN h5]
      obtain ⟨hk, hf⟩ := m_chkE hf
      obtain ⟨o5, h6, hf⟩ := m_calE hf
      rw [m_chkP hk, h6, m_calS]
      rcases m_ifE hf with ⟨h7, hf⟩ | ⟨h7, hf⟩
      · rw [m_ifP h7]
        exact step _ hf
      rw [m_ifN h7]
      obtain ⟨hk, hf⟩ := m_chkE hf
      obtain ⟨o6, h8, hf⟩ := m_calE hf
      rw [m_chkP hk, h8, m_calS]
      have ih' : ∀ (S : ZS) (c c' : Nat), c ≤ c' → c' < 2 ^ 31 → f_X7_legalMove_21 self11 n x0 x1 (nI c) (nI a) (nI (b + 1)) S = some o → o.1 = -1 → f_X7_legalMove_21 self11 n x0 x1 (nI c') (nI a) (nI (b + 1)) S = some o := fun S c c' h1 h2 h3 h4 => ih x0 x1 a (b + 1) c c' S o ha (by omega) h1 h2 h3 h4
      rcases m_ifE hf with ⟨h9, hf⟩ | ⟨h9, hf⟩
      · rw [m_ifP h9]
        exact lgm_75 (k := 1) (m := a + 64 * b) hb4 (by omega) (Or.inl rfl) hc hc' (ih' _) hf ho
      · rw [m_ifN h9]
        exact lgm_75 (k := 4) (m := a + 64 * b) hb4 (by omega) (Or.inr rfl) hc hc' (ih' _) hf ho
theorem lgm_11 (n : Nat) : LmP (f_X7_legalMove_11 n) := by
  induction n with
  | zero => intro x0 x1 a c c' S o _ _ _ hf; cases hf
  | succ n ih =>
    intro x0 x1 a c c' S o ha hc hc' hf ho
    replace hf : f_X7_legalMove_11s (f_X7_legalMove_11 n) x0 x1 (nI c) (nI a) S = some o := hf
    show f_X7_legalMove_11s (f_X7_legalMove_11 n) x0 x1 (nI c') (nI a) S = some o
    unfold f_X7_legalMove_11s at hf ⊢
    rcases m_ifE hf with ⟨h1, hf⟩ | ⟨h1, hf⟩
    · rw [m_ifP h1]
      exact hf
    · have ha4 : a < 64 := Classical.byContradiction (fun h => h1 (nI_le (a := 64) (b := a) (by omega) (by omega)))
      rw [m_ifN h1]
      exact lgm_21 ih mFuel x0 x1 a 0 c c' S o ha4 (by omega) hc hc' hf ho
def G_m (I : Nat → Int32) (A : Nat → Nat → Int32) (S : ZS) : Bool := m_any (f_X7_legalMove 4 107 20 S) (fun o => decide (o.1 = -1)) && (List.range 20).all (fun i => ckF (f_move (nI i) I A) (f_X11_move 1 (nI i) S))
theorem sy_move {I : Nat → Int32} {A : Nat → Nat → Int32} {S : ZS} {v1 : Int32} (hF : FR I A) (hC : FC S) (hG : G_m I A S = true) : ckF (f_move v1 I A) (f_X11_move 1 v1 S) = true := by
  have hG' := (Bool.and_eq_true _ _).mp hG
  obtain ⟨o, h20, h⟩ := m_anyE hG'.1
  have ho : o.1 = -1 := of_decide_eq_true h
  obtain ⟨i1, i3, i5, i6, i33, a7, a12, a14, a18⟩ := hF
  obtain ⟨k1, p0, p1, p2, p7, p9, i8, k2, i12, k3, i13, k4, k99, i99, j99, q99, k102, i102, q102, k103, i103, k107⟩ := id hC
  have hI : upd I 0 (0 : Int32) 33 = 20 := i33
  by_cases h0 : v1 < 0
  · have hr : f_move v1 I A = some (-1, (upd I 0 0, A)) := by
      unfold f_move f_move_0
      rw [m_bndS, m_ifP h0]; rfl
    have hd : f_X11_move 1 v1 S = some (-1, S) := by
      have hl : f_X7_legalMove 4 107 v1 S = some (-1, S) := by
        unfold f_X7_legalMove f_X7_legalMove_0
        rw [m_ifN (fun h => i_nlt h h0)]
      unfold f_X11_move f_X11_move_0
      rw [m_chkP k1, p2, m_calS, m_chkP k1, p9, m_calS, m_chkP k4, hl, m_calS]
    rw [hr, hd]
    rfl
  · by_cases h1 : v1 < 20
    · rw [i_of h0] at h1 ⊢
      have h4 : v1.toInt < 2 ^ 31 := Int32.toInt_lt v1
      have h5 : v1.toNatClampNeg = v1.toInt.toNat := rfl
      exact List.all_eq_true.mp hG'.2 _ (List.mem_range.mpr ((nI_ltI (b := 20) (by omega) (by omega)).mp h1))
    · have hr : f_move v1 I A = some (-1, (upd I 0 0, A)) := by
        unfold f_move f_move_0
        rw [m_bndS, m_ifN h0, hI, m_ifN h1]; rfl
      have hd : f_X11_move 1 v1 S = some (-1, o.2) := by
        have hl : f_X7_legalMove 4 107 v1 S = some o := by
          have h4 : v1.toInt < 2 ^ 31 := Int32.toInt_lt v1
          have h5 : v1.toNatClampNeg = v1.toInt.toNat := rfl
          have h6 : 20 ≤ v1.toNatClampNeg := Classical.byContradiction (fun h => h1 (by
            rw [i_of h0]
            exact nI_lt (b := 20) (by omega) (by omega)))
          unfold f_X7_legalMove f_X7_legalMove_0 at h20 ⊢
          rw [m_ifP (by decide)] at h20
          rw [m_ifP (i_nn h0), i_of h0]
          exact lgm_11 mFuel 4 107 0 20 v1.toNatClampNeg S o (by omega) h6 (by omega) h20 ho
        unfold f_X11_move f_X11_move_0
        rw [m_chkP k1, p2, m_calS, m_chkP k1, p9, m_calS, m_chkP k4, hl, m_calS, ho]
      rw [hr, hd]
      rfl
