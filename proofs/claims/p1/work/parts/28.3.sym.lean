theorem i_pos {x : Int32} (h : ¬ x < 0) (h1 : x ≠ 0) : 0 < x := by
  have h3 : (0 : Int32).toInt = 0 := rfl
  have h2 : x.toInt ≠ 0 := fun e => h1 (Int32.toInt_inj.mp (e.trans h3.symm))
  rw [Int32.lt_iff_toInt_lt, h3] at h ⊢
  omega
theorem i_nn {x : Int32} (h : ¬ x < 0) : 0 ≤ x := by
  have h3 : (0 : Int32).toInt = 0 := rfl
  rw [Int32.lt_iff_toInt_lt, h3] at h
  rw [Int32.le_iff_toInt_le, h3]
  omega
theorem i_nlt {x : Int32} (h : 0 ≤ x) : ¬ x < 0 := by
  have h3 : (0 : Int32).toInt = 0 := rfl
  rw [Int32.le_iff_toInt_le, h3] at h
  rw [Int32.lt_iff_toInt_lt, h3]
  omega
theorem i_zero {x : Int32} (h : ¬ x < 0) (h1 : x ≤ 0) : x = 0 := by
  have h3 : (0 : Int32).toInt = 0 := rfl
  rw [Int32.lt_iff_toInt_lt, h3] at h
  rw [Int32.le_iff_toInt_le, h3] at h1
  exact Int32.toInt_inj.mp ((by omega : x.toInt = 0).trans h3.symm)
theorem i_le63 {x : Int32} (h : x < 64) : x ≤ 63 := by
  have h3 : (64 : Int32).toInt = 64 := rfl
  have h4 : (63 : Int32).toInt = 63 := rfl
  rw [Int32.lt_iff_toInt_lt, h3] at h
  rw [Int32.le_iff_toInt_le, h4]
  omega
theorem i_le3 {x : Int32} (h : x < 4) : x ≤ 3 := by
  have h3 : (4 : Int32).toInt = 4 := rfl
  have h4 : (3 : Int32).toInt = 3 := rfl
  rw [Int32.lt_iff_toInt_lt, h3] at h
  rw [Int32.le_iff_toInt_le, h4]
  omega
theorem i_of {x : Int32} (h : ¬ x < 0) : x = nI x.toNatClampNeg := by
  have h3 : (0 : Int32).toInt = 0 := rfl
  rw [Int32.lt_iff_toInt_lt, h3] at h
  have h4 : x.toInt < 2 ^ 31 := Int32.toInt_lt x
  have h5 : x.toNatClampNeg = x.toInt.toNat := rfl
  apply Int32.toInt_inj.mp
  rw [nI_toInt (by omega)]
  omega
/-- a number between 0 and N is one of the list -/
theorem i_in {x : Int32} {N : Nat} (h : ¬ x < 0) (h1 : x ≤ nI N) (hN : N < 2 ^ 31) : x.toNatClampNeg ∈ List.range (N + 1) := by
  rw [i_of h] at h1
  have h4 : x.toInt < 2 ^ 31 := Int32.toInt_lt x
  have h5 : x.toNatClampNeg = x.toInt.toNat := rfl
  exact List.mem_range.mpr (Nat.lt_succ_of_le ((nI_leI (by omega) hN).mp h1))
theorem m_calS {α β : Type} {x : α} {k : α → Option β} : m_cal (some x) k = k x := rfl
theorem m_clS {γ : Type} {v : Int32} {I : Nat → Int32} {A : Nat → Nat → Int32} {k : Int32 → (Nat → Int32) → (Nat → Nat → Int32) → Option γ} : m_cl (some (v, (I, A))) k = k v I A := rfl
theorem m_bndS {α β : Type} {x : α} {k : α → Option β} : m_bnd x k = k x := rfl
abbrev FR (I : Nat → Int32) (A : Nat → Nat → Int32) : Prop := I 1 = 0 ∧ I 3 = 0 ∧ I 5 = 0 ∧ I 6 = 0 ∧ I 33 = 20 ∧ A 7 0 = 0 ∧ A 12 0 = 0 ∧ A 14 0 = 0 ∧ A 18 0 = 0
abbrev FC (S : ZS) : Prop := zK S 1 = 11 ∧ zP S 0 1 = some 2 ∧ zP S 1 1 = some 3 ∧ zP S 2 1 = some 4 ∧ zP S 7 1 = some 99 ∧ zP S 9 1 = some 107 ∧ zI S 8 1 = 0 ∧ zK S 2 = 6 ∧ zI S 1 2 = 0 ∧ zK S 3 = 6 ∧ zI S 1 3 = 0 ∧ zK S 4 = 7 ∧ zK S 99 = 1 ∧ zI S 3 99 = 0 ∧ zI S 5 99 = 0 ∧ zP S 1 99 = some 102 ∧ zK S 102 = 4 ∧ zI S 4 102 = 0 ∧ zP S 6 102 = some 103 ∧ zK S 103 = 6 ∧ zI S 1 103 = 0 ∧ zK S 107 = 0
theorem ckX_t {S S1 : ZS} {a : Option (Int32 × MS)} {d : Option ((Nat × Int32) × ZS)} {toV : Int32 → Int32} {tab : Nat → Int32} {k : Nat} {v w : Int32} {I1 : Nat → Int32} {A1 : Nat → Nat → Int32} (ha : a = some (v, (I1, A1))) (hd : d = some ((k, w), zsQ S1)) (hz : zt S1 = zt S ∧ zu S1 = zu S) (hk : k ≠ 0) (hc : tab k = I1 0) (h0 : I1 0 ≠ 0) : ckX S a d toV tab = true := by
  subst ha hd
  have h1 : zt S1 + 1 ≤ zt S + 10000 := by omega
  have h2 : zu S1 + 6 ≤ zu S + 140000 := by omega
  show ((if k = 0 then (decide (I1 0 = 0) && decide (toV w = toV v)) else decide (tab k = I1 0) && decide (I1 0 ≠ 0)) && (decide (zt S1 + 1 ≤ zt S + 10000) && decide (zu S1 + 6 ≤ zu S + 140000))) = true
  rw [if_neg hk, decide_eq_true hc, decide_eq_true h0, decide_eq_true h1, decide_eq_true h2]
  rfl
section SY
variable {I : Nat → Int32} {A : Nat → Nat → Int32} {S : ZS} {v1 v2 v3 : Int32}
theorem isNode_n (hF : FR I A) (hv : v1 ≠ 0) : f_isNode v1 I A = some (0, (I, A)) := by
  obtain ⟨i1, i3, i5, i6, i33, a7, a12, a14, a18⟩ := hF
  unfold f_isNode f_isNode_0
  by_cases h0 : v1 < 0
  · rw [m_ifP h0]; rfl
  · rw [m_ifN h0, i5, m_chkP (by decide), m_bndS]
    show m_if (A 7 0 < v1) _ _ = _
    rw [a7, m_ifP (i_pos h0 hv)]; rfl
theorem isNode_0 (hF : FR I A) : f_isNode 0 I A = some (1, (I, A)) := by
  obtain ⟨i1, i3, i5, i6, i33, a7, a12, a14, a18⟩ := hF
  unfold f_isNode f_isNode_0
  rw [m_ifN (by decide), i5, m_chkP (by decide), m_bndS]
  show m_if (A 7 0 < 0) _ _ = _
  rw [a7, m_ifN (by decide)]; rfl
theorem has_n (hC : FC S) (hv : v1 ≠ 0) : f_X1_has 99 v1 S = some (0, S) := by
  obtain ⟨k1, p0, p1, p2, p7, p9, i8, k2, i12, k3, i13, k4, k99, i99, j99, q99, k102, i102, q102, k103, i103, k107⟩ := hC
  unfold f_X1_has f_X1_has_0
  by_cases h0 : v1 < 0
  · rw [m_ifP h0]; rfl
  · rw [m_ifN h0, m_chkP k99, i99, m_ifP (i_pos h0 hv)]; rfl
theorem has_0 (hC : FC S) : f_X1_has 99 0 S = some (1, S) := by
  obtain ⟨k1, p0, p1, p2, p7, p9, i8, k2, i12, k3, i13, k4, k99, i99, j99, q99, k102, i102, q102, k103, i103, k107⟩ := hC
  unfold f_X1_has f_X1_has_0
  rw [m_ifN (by decide), m_chkP k99, i99, m_ifN (by decide)]; rfl
theorem at_0 (hC : FC S) : f_X1_at 99 0 S = some (102, S) := by
  obtain ⟨k1, p0, p1, p2, p7, p9, i8, k2, i12, k3, i13, k4, k99, i99, j99, q99, k102, i102, q102, k103, i103, k107⟩ := hC
  unfold f_X1_at f_X1_at_0
  rw [m_ifP (by decide)]
  show m_chk (zK S 99 = 1) _ = _
  rw [m_chkP k99, q99]; rfl
theorem upd_1 {c : Int32} : upd I 0 c 0 = c := if_pos rfl
/-- node -/
theorem sr_node (hF : FR I A) (hv : v1 ≠ 0 ∨ v2 < 0 ∨ ¬ v2 ≤ 5) : f_node v1 v2 I A = some (0, (upd I 0 1, A)) := by
  have hq : f_node_18 v1 v2 I A = some (0, (upd I 0 1, A)) := by
    unfold f_node_18 f_node_23
    rw [m_bndS, m_ifN (by rw [upd_1]; decide)]
  unfold f_node f_node_0
  by_cases h1 : v1 = 0
  · subst h1
    rw [isNode_0 hF, m_clS, m_ifN (by decide)]
    rcases hv with hv | hv
    · exact absurd rfl hv
    by_cases h2 : v2 < 0
    · rw [m_ifP h2, hq]
    · rw [m_ifN h2, m_ifN (hv.resolve_left h2), hq]
  · rw [isNode_n hF h1, m_clS, m_ifP rfl, hq]
theorem sc_node (hC : FC S) (hv : v1 ≠ 0 ∨ v2 < 0 ∨ ¬ v2 ≤ 5) : d_X11_node 1 v1 v2 S = some ((2, 0), zsQ S) := by
  obtain ⟨k1, p0, p1, p2, p7, p9, i8, k2, i12, k3, i13, k4, k99, i99, j99, q99, k102, i102, q102, k103, i103, k107⟩ := id hC
  unfold d_X11_node d_X11_node_0
  rw [m_chkP k1, p7, m_calS, m_chkP k99]
  by_cases h1 : v1 = 0
  · rcases hv with hv | hv
    · exact absurd h1 hv
    have hn : ∀ c : Int32, (¬ (c < 0 ∨ ¬ c ≤ 5)) → v2 ≠ c := fun c hc e => hc (e ▸ hv)
    subst h1
    rw [has_0 hC, m_calS]; dsimp only; rw [m_chkP ⟨rfl, rfl⟩, m_ifN (by decide), m_chkP k1, p7, m_calS, m_chkP k99, at_0 hC, m_calS]; dsimp only; rw [m_chkP ⟨rfl, rfl⟩, m_ifN (hn 0 (by decide)), m_ifN (hn 1 (by decide)), m_ifN (hn 2 (by decide)), m_ifN (hn 3 (by decide)), m_ifN (hn 4 (by decide)), m_ifN (hn 5 (by decide))]
  · rw [has_n hC h1, m_calS]; dsimp only; rw [m_chkP ⟨rfl, rfl⟩, m_ifP rfl]
theorem sy_node (hF : FR I A) (hC : FC S) (hv : v1 ≠ 0 ∨ v2 < 0 ∨ ¬ v2 ≤ 5) : ckX S (f_node v1 v2 I A) (d_X11_node 1 v1 v2 S) tV tb_node = true := ckX_t (sr_node hF hv) (sc_node hC hv) ⟨rfl, rfl⟩ (by decide) (upd_1 (c := 1)).symm (by rw [upd_1]; decide)
/-- mark -/
theorem sr_mark (hF : FR I A) : f_mark v1 v2 I A = some (0, (upd I 0 1, A)) := by
  have hq : f_mark_32 v1 v2 I A = some (0, (upd I 0 1, A)) := by
    unfold f_mark_32 f_mark_37
    rw [m_bndS, m_ifN (by rw [upd_1]; decide)]; rfl
  unfold f_mark f_mark_0
  by_cases h1 : v1 = 0
  · subst h1
    rw [isNode_0 hF, m_clS, m_ifN (by decide)]
    by_cases h2 : v2 < 0
    · rw [m_ifP h2, hq]
    · obtain ⟨i1, i3, i5, i6, i33, a7, a12, a14, a18⟩ := hF
      rw [m_ifN h2, m_bndS, m_bndS, i5, m_chkP (by decide), m_bndS]
      show m_if (v2 < A 12 0) _ _ = _
      rw [a12, m_ifN h2, hq]
  · rw [isNode_n hF h1, m_clS, m_ifP rfl, hq]
theorem sc_mark (hC : FC S) : d_X11_mark 1 v1 v2 S = some ((2, 0), zsQ S) := by
  obtain ⟨k1, p0, p1, p2, p7, p9, i8, k2, i12, k3, i13, k4, k99, i99, j99, q99, k102, i102, q102, k103, i103, k107⟩ := id hC
  unfold d_X11_mark d_X11_mark_0
  rw [m_chkP k1, p7, m_calS, m_chkP k99]
  by_cases h1 : v1 = 0
  · subst h1
    rw [has_0 hC, m_calS]; dsimp only; rw [m_chkP ⟨rfl, rfl⟩, m_ifN (by decide)]
    by_cases h2 : v2 < 0
    · rw [m_ifP h2]; rfl
    · rw [m_ifN h2, m_chkP k1, p7, m_calS, m_chkP k99, at_0 hC, m_calS]; dsimp only; rw [m_chkP ⟨rfl, rfl⟩, m_chkP k102, i102, m_ifN h2]; rfl
  · rw [has_n hC h1, m_calS]; dsimp only; rw [m_chkP ⟨rfl, rfl⟩, m_ifP rfl]; rfl
theorem sy_mark (hF : FR I A) (hC : FC S) : ckX S (f_mark v1 v2 I A) (d_X11_mark 1 v1 v2 S) tV tb_mark = true := ckX_t (sr_mark hF) (sc_mark hC) ⟨rfl, rfl⟩ (by decide) (upd_1 (c := 1)).symm (by rw [upd_1]; decide)
/-- remark -/
theorem sr_remark (hF : FR I A) : f_remark v1 v2 I A = some (0, (upd I 0 1, A)) := by
  have hq : f_remark_32 v1 v2 I A = some (0, (upd I 0 1, A)) := by
    unfold f_remark_32 f_remark_37
    rw [m_bndS, m_ifN (by rw [upd_1]; decide)]; rfl
  unfold f_remark f_remark_0
  by_cases h1 : v1 = 0
  · subst h1
    rw [isNode_0 hF, m_clS, m_ifN (by decide)]
    by_cases h2 : v2 < 0
    · rw [m_ifP h2, hq]
    · obtain ⟨i1, i3, i5, i6, i33, a7, a12, a14, a18⟩ := hF
      rw [m_ifN h2, m_bndS, m_bndS, i5, m_chkP (by decide), m_bndS]
      show m_if (v2 < A 14 0) _ _ = _
      rw [a14, m_ifN h2, hq]
  · rw [isNode_n hF h1, m_clS, m_ifP rfl, hq]
theorem sc_remark (hC : FC S) : d_X11_remark 1 v1 v2 S = some ((2, 0), zsQ S) := by
  obtain ⟨k1, p0, p1, p2, p7, p9, i8, k2, i12, k3, i13, k4, k99, i99, j99, q99, k102, i102, q102, k103, i103, k107⟩ := id hC
  have hs : f_X6_size 103 S = some (0, S) := by
    unfold f_X6_size f_X6_size_0
    rw [m_chkP k103, i103]
  unfold d_X11_remark d_X11_remark_0
  rw [m_chkP k1, p7, m_calS, m_chkP k99]
  by_cases h1 : v1 = 0
  · subst h1
    rw [has_0 hC, m_calS]; dsimp only; rw [m_chkP ⟨rfl, rfl⟩, m_ifN (by decide)]
    by_cases h2 : v2 < 0
    · rw [m_ifP h2]; rfl
    · rw [m_ifN h2, m_chkP k1, p7, m_calS, m_chkP k99, at_0 hC, m_calS]; dsimp only; rw [m_chkP ⟨rfl, rfl⟩, m_chkP k102, q102, m_calS, m_chkP k103, hs, m_calS]; dsimp only; rw [m_chkP ⟨rfl, rfl⟩, m_ifN h2]; rfl
  · rw [has_n hC h1, m_calS]; dsimp only; rw [m_chkP ⟨rfl, rfl⟩, m_ifP rfl]; rfl
theorem sy_remark (hF : FR I A) (hC : FC S) : ckX S (f_remark v1 v2 I A) (d_X11_remark 1 v1 v2 S) tV tb_remark = true := ckX_t (sr_remark hF) (sc_remark hC) ⟨rfl, rfl⟩ (by decide) (upd_1 (c := 1)).symm (by rw [upd_1]; decide)
/-- go -/
theorem sy_go (hF : FR I A) (hC : FC S) (hv : v1 ≠ 0) : ckX S (f_go v1 I A) (d_X11_go 1 v1 S) tN tb_go = true := by
  have hr : f_go v1 I A = some (0, (upd I 0 1, A)) := by
    unfold f_go f_go_0
    rw [isNode_n hF hv, m_clS, m_ifP rfl]
    unfold f_go_14
    rw [m_bndS, m_ifN (by rw [upd_1]; decide)]; rfl
  have hd : d_X11_go 1 v1 S = some ((2, 0), zsQ S) := by
    obtain ⟨k1, p0, p1, p2, p7, p9, i8, k2, i12, k3, i13, k4, k99, i99, j99, q99, k102, i102, q102, k103, i103, k107⟩ := id hC
    unfold d_X11_go d_X11_go_0
    rw [m_chkP k1, p7, m_calS, m_chkP k99, has_n hC hv, m_calS]; dsimp only; rw [m_chkP ⟨rfl, rfl⟩, m_ifP rfl]
  exact ckX_t hr hd ⟨rfl, rfl⟩ (by decide) (upd_1 (c := 1)).symm (by rw [upd_1]; decide)
/-- man -/
theorem sy_man (hv : v1 < 0 ∨ ¬ v1 ≤ 63) : ckX S (f_man v1 I A) (d_X11_man 1 v1 S) tV tb_man = true := by
  have hq : f_man_11 v1 I A = some (0, (upd I 0 1, A)) := by
    unfold f_man_11 f_man_16
    rw [m_bndS, m_ifN (by rw [upd_1]; decide)]; rfl
  have hr : f_man v1 I A = some (0, (upd I 0 1, A)) := by
    unfold f_man f_man_0
    by_cases h2 : v1 < 0
    · rw [m_ifP h2, hq]
    · rw [m_ifN h2, m_ifN (hv.resolve_left h2), hq]
  have hd : d_X11_man 1 v1 S = some ((2, 0), zsQ S) := by
    unfold d_X11_man d_X11_man_0
    by_cases h2 : v1 < 0
    · rw [m_ifP h2]; rfl
    · rw [m_ifN h2, m_ifN (fun h => hv.resolve_left h2 (i_le63 h))]; rfl
  exact ckX_t hr hd ⟨rfl, rfl⟩ (by decide) (upd_1 (c := 1)).symm (by rw [upd_1]; decide)
/-- end -/
theorem sy_end (hF : FR I A) (hv : v1 < 0 ∨ ¬ v1 ≤ 3) : ckX S (f_end v1 I A) (d_X11_end 1 v1 S) tN tb_end = true := by
  obtain ⟨i1, i3, i5, i6, i33, a7, a12, a14, a18⟩ := hF
  have hI : upd I 0 1 5 = 0 := i5
  have hq : ∃ A1, f_end_10 v1 I A = some (0, (upd I 0 1, A1)) := by
    unfold f_end_10 f_end_15
    rw [m_bndS, m_ifN (by rw [upd_1]; decide), hI, m_chkP (by decide), m_bndS]
    exact ⟨_, rfl⟩
  obtain ⟨A1, hq⟩ := hq
  have hr : f_end v1 I A = some (0, (upd I 0 1, A1)) := by
    unfold f_end f_end_0
    by_cases h2 : v1 < 0
    · rw [m_ifP h2, hq]
    · rw [m_ifN h2, m_ifN (hv.resolve_left h2), hq]
  have hd : d_X11_end 1 v1 S = some ((1, 0), zsQ S) := by
    unfold d_X11_end d_X11_end_0
    by_cases h2 : v1 < 0
    · rw [m_ifP h2]; rfl
    · rw [m_ifN h2, m_ifN (fun h => hv.resolve_left h2 (i_le3 h))]; rfl
  exact ckX_t hr hd ⟨rfl, rfl⟩ (by decide) (upd_1 (c := 1)).symm (by rw [upd_1]; decide)
/-- tag -/
theorem sy_tag (hF : FR I A) (hC : FC S) {w : Int32} : ckX S (f_tag v1 w v3 I A) (d_X11_tag 1 v1 w v3 S) tV tb_tag = true := by
  obtain ⟨i1, i3, i5, i6, i33, a7, a12, a14, a18⟩ := hF
  obtain ⟨k1, p0, p1, p2, p7, p9, i8, k2, i12, k3, i13, k4, k99, i99, j99, q99, k102, i102, q102, k103, i103, k107⟩ := id hC
  have hq : f_tag_22 v1 w v3 I A = some (0, (upd I 0 1, A)) := by
    unfold f_tag_22 f_tag_27
    rw [m_bndS, m_ifN (by rw [upd_1]; decide)]
  have hr : f_tag v1 w v3 I A = some (0, (upd I 0 1, A)) := by
    unfold f_tag f_tag_0
    by_cases h2 : v1 < 0
    · rw [m_ifP h2, hq]
    · rw [m_ifN h2, i5, m_chkP (by decide), m_bndS]
      show m_if (A 18 0 ≤ v1) _ _ = _
      rw [a18, m_ifP (i_nn h2), hq]
  have hd : d_X11_tag 1 v1 w v3 S = some ((2, 0), zsQ S) := by
    unfold d_X11_tag d_X11_tag_0
    by_cases h2 : v1 < 0
    · rw [m_ifP h2]; rfl
    · rw [m_ifN h2, m_chkP k1, p7, m_calS, m_chkP k99, j99, m_ifP (i_nn h2)]; rfl
  exact ckX_t hr hd ⟨rfl, rfl⟩ (by decide) (upd_1 (c := 1)).symm (by rw [upd_1]; decide)
/-- addMark -/
theorem sy_addMark (hF : FR I A) (hC : FC S) : ckX S (f_addMark v1 I A) (d_X11_addMark 1 v1 S) tV tb_addMark = true := by
  obtain ⟨i1, i3, i5, i6, i33, a7, a12, a14, a18⟩ := hF
  obtain ⟨k1, p0, p1, p2, p7, p9, i8, k2, i12, k3, i13, k4, k99, i99, j99, q99, k102, i102, q102, k103, i103, k107⟩ := id hC
  have hq : f_addMark_12 v1 I A = some (0, (upd I 0 1, A)) := by
    unfold f_addMark_12 f_addMark_50
    rw [m_bndS, m_ifN (by rw [upd_1]; decide)]
  have hq2 : f_addMark_45 v1 I A = some (0, (upd I 0 2, A)) := by
    unfold f_addMark_45 f_addMark_50
    rw [m_bndS, m_ifN (by rw [upd_1]; decide)]
  by_cases hv : v1 < 0 ∨ ¬ v1 ≤ 255
  · have hr : f_addMark v1 I A = some (0, (upd I 0 1, A)) := by
      unfold f_addMark f_addMark_0
      by_cases h2 : v1 < 0
      · rw [m_ifP h2, hq]
      · rw [m_ifN h2, m_ifN (hv.resolve_left h2), hq]
    have hd : d_X11_addMark 1 v1 S = some ((1, 0), zsQ S) := by
      unfold d_X11_addMark d_X11_addMark_0
      by_cases h2 : v1 < 0
      · rw [m_ifP h2]; rfl
      · rw [m_ifN h2, m_ifN (hv.resolve_left h2)]; rfl
    exact ckX_t hr hd ⟨rfl, rfl⟩ (by decide) (upd_1 (c := 1)).symm (by rw [upd_1]; decide)
  · have h2 : ¬ v1 < 0 := fun h => hv (Or.inl h)
    have h3 : v1 ≤ 255 := Classical.byContradiction (fun h => hv (Or.inr h))
    have hr : f_addMark v1 I A = some (0, (upd I 0 2, A)) := by
      unfold f_addMark f_addMark_0
      rw [m_ifN h2, m_ifP h3, m_ifP i6, hq2]
    have hd : d_X11_addMark 1 v1 S = some ((4, 0), zsQ S) := by
      unfold d_X11_addMark d_X11_addMark_0
      rw [m_ifN h2, m_ifP h3, m_chkP k1, p7, m_calS, m_chkP k1, m_chkP k99, i8, at_0 hC, m_calS]; dsimp only; rw [m_chkP ⟨rfl, rfl⟩, m_chkP k1, i8, m_ifP rfl]; rfl
    exact ckX_t hr hd ⟨rfl, rfl⟩ (by decide) (upd_1 (c := 2)).symm (by rw [upd_1]; decide)
/-- cut -/
theorem sy_cut (hF : FR I A) (hC : FC S) (hv : v1 ≠ 0) : ckF (f_cut v1 I A) (f_X11_cut 1 v1 S) = true := by
  obtain ⟨i1, i3, i5, i6, i33, a7, a12, a14, a18⟩ := hF
  obtain ⟨k1, p0, p1, p2, p7, p9, i8, k2, i12, k3, i13, k4, k99, i99, j99, q99, k102, i102, q102, k103, i103, k107⟩ := id hC
  have hI : upd I 0 (0 : Int32) 1 = 0 := i1
  have hr : f_cut v1 I A = some (0, (upd I 0 0, A)) := by
    unfold f_cut f_cut_0
    by_cases h2 : v1 < 0
    · rw [m_bndS, m_ifP h2]; rfl
    · rw [m_bndS, m_ifN h2, hI, m_ifN (fun h => hv (i_zero h2 h))]; rfl
  have hd : f_X11_cut 1 v1 S = some (0, S) := by
    have hs : f_X6_size 2 S = some (0, S) := by
      unfold f_X6_size f_X6_size_0
      rw [m_chkP k2, i12]
    unfold f_X11_cut f_X11_cut_0
    by_cases h2 : v1 < 0
    · rw [m_ifP h2]; rfl
    · rw [m_ifN h2, m_chkP k1, p0, m_calS, m_chkP k2, hs, m_calS, m_ifN (fun h => hv (i_zero h2 h))]; rfl
  rw [hr, hd]
  rfl
/-- out -/
theorem sy_out (hF : FR I A) (hC : FC S) : ckF (f_out v1 I A) (f_X11_out 1 v1 S) = true := by
  obtain ⟨i1, i3, i5, i6, i33, a7, a12, a14, a18⟩ := hF
  obtain ⟨k1, p0, p1, p2, p7, p9, i8, k2, i12, k3, i13, k4, k99, i99, j99, q99, k102, i102, q102, k103, i103, k107⟩ := id hC
  have hI : upd I 0 (0 : Int32) 3 = 0 := i3
  have hr : f_out v1 I A = some (0, (upd I 0 0, A)) := by
    unfold f_out f_out_0
    by_cases h2 : v1 < 0
    · rw [m_bndS, m_ifP h2]; rfl
    · rw [m_bndS, m_ifN h2, hI, m_ifN h2]; rfl
  have hd : f_X11_out 1 v1 S = some (0, S) := by
    have hs : f_X6_at 3 v1 S = some (0, S) := by
      unfold f_X6_at f_X6_at_0
      by_cases h2 : v1 < 0
      · rw [m_ifP h2]; rfl
      · rw [m_ifN h2, m_chkP k3, i13, m_ifP (i_nn h2)]; rfl
    unfold f_X11_out f_X11_out_0
    rw [m_chkP k1, p1, m_calS, m_chkP k3, hs, m_calS]
  rw [hr, hd]
  rfl
end SY
