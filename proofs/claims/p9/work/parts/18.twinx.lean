/-- after a throw: one cell more at most, six slots -/
def zsQ (S : ZS) : ZS := (zL S, zK S, zI S, zP S, zN S, zA S, zB S, zc S, zt S + 1, zu S + 6)
def zsV (S : ZS) (j : Nat) : ZS := (zL S, zK S, zI S, zP S, zN S, zA S, zB S, zc S, zt S - 1 + j, zu S)
theorem zsV_Q (S : ZS) (j : Nat) : zsV (zsQ S) j = zsK S j := by
  unfold zsV zsQ zsK
  show (_, _, _, _, _, _, _, _, zt S + 1 - 1 + j, zu S + 6) = (_, _, _, _, _, _, _, _, zt S + j, zu S + 6)
  rw [Nat.add_sub_cancel]
abbrev twP (Pw : Int32 → ZS → Prop) (Px : Nat → ZS → Prop) : Nat × Int32 → ZS → Prop := fun a S => (a.1 = 0 → Pw a.2 S) ∧ (a.1 ≠ 0 → ∀ j, Px a.1 (zsV S j))
theorem tw_retX {Pw : Int32 → ZS → Prop} {Px : Nat → ZS → Prop} {n m : Nat} {v : Int32} {S : ZS} (hS : zt S = n ∧ zu S = m) : Tw (twP Pw Px) (some ((0, v), S)) n m (fun _ _ => Pw v S) := by
  intro o ho
  cases ho
  exact ⟨⟨Nat.le_of_eq hS.1.symm, Nat.le_of_eq hS.2.symm⟩, fun _ _ _ _ h => h.1 rfl⟩
theorem tw_thr {Pw : Int32 → ZS → Prop} {Px : Nat → ZS → Prop} {n m k : Nat} {S : ZS} (hk : k ≠ 0) (hS : zt S = n ∧ zu S = m) : Tw (twP Pw Px) (some ((k, (0 : Int32)), zsQ S)) n m (fun C T => m_thrP C T k S Px) := by
  intro o ho
  cases ho
  refine ⟨⟨?_, ?_⟩, fun C T h1 h2 h3 => ⟨⟨?_, ?_⟩, fun j => ?_⟩⟩
  · show n ≤ zt S + 1
    omega
  · show m ≤ zu S + 6
    omega
  · have h4 : zt S + 1 ≤ n + C := h1
    omega
  · have h4 : zu S + 6 ≤ m + T := h2
    omega
  · have h4 := h3.2 hk j
    rw [zsV_Q] at h4
    exact h4
def d_X11_signs_0 (x0 : Nat) (x1 : Int32) (S : ZS) : Option ((Nat × Int32) × ZS) :=
  m_chk (zK S x0 = 11) (
  m_cal (zP S 2 x0) (fun b1 =>
  m_chk (zK S x0 = 11) (
  m_cal (zP S 9 x0) (fun b2 =>
  m_chk (zK S b1 = 7) (
  m_cal (f_X7_isLegal b1 b2 x1 S) (fun o3 => m_chk (zt o3.2 = zt S ∧ zu o3.2 = zu S) (
  m_if (o3.1 = 0) (
  some ((1, 0), zsQ o3.2)
  ) (
  m_chk (zK o3.2 x0 = 11) (
  m_cal (zP o3.2 1 x0) (fun b4 =>
  m_chk (zK o3.2 b4 = 6) (
  m_cal (f_X6_keep b4 (0 : Int32) o3.2) (fun o5 => m_chk (zt o5.2 = zt o3.2 ∧ zu o5.2 = zu o3.2) (
  m_chk (zK o5.2 x0 = 11) (
  m_cal (zP o5.2 4 x0) (fun b6 =>
  m_chk (zK o5.2 x0 = 11) (
  m_cal (zP o5.2 9 x0) (fun b7 =>
  m_chk (zK o5.2 x0 = 11) (
  m_cal (zP o5.2 1 x0) (fun b8 =>
  m_chk (zK o5.2 b6 = 9) (
  m_cal2 (d_X9_putSigns b6 b7 x1 b8 o5.2) (fun r10 S11 =>
  m_chk (zK S11 x0 = 11) (
  m_cal (zP S11 1 x0) (fun b14 =>
  m_chk (zK S11 b14 = 6) (
  m_cal (f_X6_size b14 S11) (fun o15 => m_chk (zt o15.2 = zt S11 ∧ zu o15.2 = zu S11) (
  some ((0, o15.1), o15.2)))))))))))))))))))
  ))))))))
theorem tt_X11_signs_0 {Pw : Int32 → ZS → Prop} {Px : Nat → ZS → Prop} {x0 : Nat} {x1 : Int32} {S : ZS} : Tw (twP Pw Px) (d_X11_signs_0 x0 x1 S) (zt S) (zu S) (fun C T => g_X11_signs_0 Pw Px x0 x1 S C T) := by
  unfold d_X11_signs_0 g_X11_signs_0
  refine tw_chk (fun _ => ?_)
  refine tw_calv (fun b1 => ?_)
  refine tw_chk (fun _ => ?_)
  refine tw_calv (fun b2 => ?_)
  refine tw_chk (fun _ => ?_)
  refine tw_calf (⟨rfl, rfl⟩ : zt S = zt S ∧ zu S = zu S) (fun o3 co3 => ?_)
  refine tw_if (fun _ => ?_) (fun _ => ?_)
  ·
    exact tw_thr (by decide) co3
  ·
    refine tw_chk (fun _ => ?_)
    refine tw_calv (fun b4 => ?_)
    refine tw_chk (fun _ => ?_)
    refine tw_calf co3 (fun o5 co5 => ?_)
    refine tw_chk (fun _ => ?_)
    refine tw_calv (fun b6 => ?_)
    refine tw_chk (fun _ => ?_)
    refine tw_calv (fun b7 => ?_)
    refine tw_chk (fun _ => ?_)
    refine tw_calv (fun b8 => ?_)
    refine tw_chk (fun _ => ?_)
    refine tw_gal (fun Pw9 => tw_at co5 tt_X9_putSigns) (fun r10 S11 => ?_)
    refine tw_chk (fun _ => ?_)
    refine tw_calv (fun b14 => ?_)
    refine tw_chk (fun _ => ?_)
    refine tw_calf (⟨rfl, rfl⟩ : zt S11 = zt S11 ∧ zu S11 = zu S11) (fun o15 co15 => ?_)
    exact tw_retX co15
def d_X11_signs (x0 : Nat) (x1 : Int32) (S : ZS) : Option ((Nat × Int32) × ZS) := d_X11_signs_0 x0 x1 S
theorem tt_X11_signs {Pw : Int32 → ZS → Prop} {Px : Nat → ZS → Prop} {x0 : Nat} {x1 : Int32} {S : ZS} : Tw (twP Pw Px) (d_X11_signs x0 x1 S) (zt S) (zu S) (fun C T => g_X11_signs x0 x1 S C T Pw Px) := tt_X11_signs_0
def d_X11_node_0 (x0 : Nat) (x1 : Int32) (x2 : Int32) (S : ZS) : Option ((Nat × Int32) × ZS) :=
  m_chk (zK S x0 = 11) (
  m_cal (zP S 7 x0) (fun b1 =>
  m_chk (zK S b1 = 1) (
  m_cal (f_X1_has b1 x1 S) (fun o2 => m_chk (zt o2.2 = zt S ∧ zu o2.2 = zu S) (
  m_if (o2.1 = 0) (
  some ((2, 0), zsQ o2.2)
  ) (
  m_chk (zK o2.2 x0 = 11) (
  m_cal (zP o2.2 7 x0) (fun b3 =>
  m_chk (zK o2.2 b3 = 1) (
  m_cal (f_X1_at b3 x1 o2.2) (fun o4 => m_chk (zt o4.2 = zt o2.2 ∧ zu o4.2 = zu o2.2) (
  m_if (x2 = (0 : Int32)) (
  m_chk (zK o4.2 o4.1 = 4) (
  some ((0, (zI o4.2 0 o4.1)), o4.2))
  ) (
  m_if (x2 = (1 : Int32)) (
  m_chk (zK o4.2 o4.1 = 4) (
  some ((0, (zI o4.2 1 o4.1)), o4.2))
  ) (
  m_if (x2 = (2 : Int32)) (
  m_chk (zK o4.2 o4.1 = 4) (
  some ((0, (zI o4.2 2 o4.1)), o4.2))
  ) (
  m_if (x2 = (3 : Int32)) (
  m_chk (zK o4.2 o4.1 = 4) (
  some ((0, (zI o4.2 3 o4.1)), o4.2))
  ) (
  m_if (x2 = (4 : Int32)) (
  m_chk (zK o4.2 o4.1 = 4) (
  some ((0, (zI o4.2 4 o4.1)), o4.2))
  ) (
  m_if (x2 = (5 : Int32)) (
  m_chk (zK o4.2 o4.1 = 4) (
  m_cal (zP o4.2 6 o4.1) (fun b5 =>
  m_chk (zK o4.2 b5 = 6) (
  m_cal (f_X6_size b5 o4.2) (fun o6 => m_chk (zt o6.2 = zt o4.2 ∧ zu o6.2 = zu o4.2) (
  some ((0, o6.1), o6.2))))))
  ) (
  some ((2, 0), zsQ o4.2)
  )
  )
  )
  )
  )
  ))))))
  ))))))
theorem tt_X11_node_0 {Pw : Int32 → ZS → Prop} {Px : Nat → ZS → Prop} {x0 : Nat} {x1 : Int32} {x2 : Int32} {S : ZS} : Tw (twP Pw Px) (d_X11_node_0 x0 x1 x2 S) (zt S) (zu S) (fun C T => g_X11_node_0 Pw Px x0 x1 x2 S C T) := by
  unfold d_X11_node_0 g_X11_node_0
  refine tw_chk (fun _ => ?_)
  refine tw_calv (fun b1 => ?_)
  refine tw_chk (fun _ => ?_)
  refine tw_calf (⟨rfl, rfl⟩ : zt S = zt S ∧ zu S = zu S) (fun o2 co2 => ?_)
  refine tw_if (fun _ => ?_) (fun _ => ?_)
  ·
    exact tw_thr (by decide) co2
  ·
    refine tw_chk (fun _ => ?_)
    refine tw_calv (fun b3 => ?_)
    refine tw_chk (fun _ => ?_)
    refine tw_calf co2 (fun o4 co4 => ?_)
    refine tw_if (fun _ => ?_) (fun _ => ?_)
    ·
      refine tw_chk (fun _ => ?_)
      exact tw_retX co4
    ·
      refine tw_if (fun _ => ?_) (fun _ => ?_)
      ·
        refine tw_chk (fun _ => ?_)
        exact tw_retX co4
      ·
        refine tw_if (fun _ => ?_) (fun _ => ?_)
        ·
          refine tw_chk (fun _ => ?_)
          exact tw_retX co4
        ·
          refine tw_if (fun _ => ?_) (fun _ => ?_)
          ·
            refine tw_chk (fun _ => ?_)
            exact tw_retX co4
          ·
            refine tw_if (fun _ => ?_) (fun _ => ?_)
            ·
              refine tw_chk (fun _ => ?_)
              exact tw_retX co4
            ·
              refine tw_if (fun _ => ?_) (fun _ => ?_)
              ·
                refine tw_chk (fun _ => ?_)
                refine tw_calv (fun b5 => ?_)
                refine tw_chk (fun _ => ?_)
                refine tw_calf co4 (fun o6 co6 => ?_)
                exact tw_retX co6
              ·
                exact tw_thr (by decide) co4
def d_X11_node (x0 : Nat) (x1 : Int32) (x2 : Int32) (S : ZS) : Option ((Nat × Int32) × ZS) := d_X11_node_0 x0 x1 x2 S
theorem tt_X11_node {Pw : Int32 → ZS → Prop} {Px : Nat → ZS → Prop} {x0 : Nat} {x1 : Int32} {x2 : Int32} {S : ZS} : Tw (twP Pw Px) (d_X11_node x0 x1 x2 S) (zt S) (zu S) (fun C T => g_X11_node x0 x1 x2 S C T Pw Px) := tt_X11_node_0
def d_X11_mark_30 (S : ZS) : Option ((Nat × Int32) × ZS) :=
  some ((2, 0), zsQ S)
theorem tt_X11_mark_30 {Pw : Int32 → ZS → Prop} {Px : Nat → ZS → Prop} {S : ZS} : Tw (twP Pw Px) (d_X11_mark_30 S) (zt S) (zu S) (fun C T => g_X11_mark_30 Pw Px S C T) := by
  unfold d_X11_mark_30 g_X11_mark_30
  exact tw_thr (by decide) (⟨rfl, rfl⟩ : zt S = zt S ∧ zu S = zu S)
def d_X11_mark_0 (x0 : Nat) (x1 : Int32) (x2 : Int32) (S : ZS) : Option ((Nat × Int32) × ZS) :=
  m_chk (zK S x0 = 11) (
  m_cal (zP S 7 x0) (fun b1 =>
  m_chk (zK S b1 = 1) (
  m_cal (f_X1_has b1 x1 S) (fun o2 => m_chk (zt o2.2 = zt S ∧ zu o2.2 = zu S) (
  m_if (o2.1 = 0) (
  d_X11_mark_30 o2.2
  ) (
  m_if (x2 < 0) (
  d_X11_mark_30 o2.2
  ) (
  m_chk (zK o2.2 x0 = 11) (
  m_cal (zP o2.2 7 x0) (fun b3 =>
  m_chk (zK o2.2 b3 = 1) (
  m_cal (f_X1_at b3 x1 o2.2) (fun o4 => m_chk (zt o4.2 = zt o2.2 ∧ zu o4.2 = zu o2.2) (
  m_chk (zK o4.2 o4.1 = 4) (
  m_if (x2 < (zI o4.2 4 o4.1)) (
  m_chk (zK o4.2 x0 = 11) (
  m_cal (zP o4.2 7 x0) (fun b5 =>
  m_chk (zK o4.2 b5 = 1) (
  m_cal (f_X1_at b5 x1 o4.2) (fun o6 => m_chk (zt o6.2 = zt o4.2 ∧ zu o6.2 = zu o4.2) (
  m_chk (zK o6.2 o6.1 = 4) (
  m_cal (f_X4_markAt o6.1 x2 o6.2) (fun o7 => m_chk (zt o7.2 = zt o6.2 ∧ zu o7.2 = zu o6.2) (
  some ((0, o7.1), o7.2)))))))))
  ) (
  d_X11_mark_30 o4.2
  )))))))
  )
  ))))))
theorem tt_X11_mark_0 {Pw : Int32 → ZS → Prop} {Px : Nat → ZS → Prop} {x0 : Nat} {x1 : Int32} {x2 : Int32} {S : ZS} : Tw (twP Pw Px) (d_X11_mark_0 x0 x1 x2 S) (zt S) (zu S) (fun C T => g_X11_mark_0 Pw Px x0 x1 x2 S C T) := by
  unfold d_X11_mark_0 g_X11_mark_0
  refine tw_chk (fun _ => ?_)
  refine tw_calv (fun b1 => ?_)
  refine tw_chk (fun _ => ?_)
  refine tw_calf (⟨rfl, rfl⟩ : zt S = zt S ∧ zu S = zu S) (fun o2 co2 => ?_)
  refine tw_if (fun _ => ?_) (fun _ => ?_)
  ·
    exact tw_at co2 tt_X11_mark_30
  ·
    refine tw_if (fun _ => ?_) (fun _ => ?_)
    ·
      exact tw_at co2 tt_X11_mark_30
    ·
      refine tw_chk (fun _ => ?_)
      refine tw_calv (fun b3 => ?_)
      refine tw_chk (fun _ => ?_)
      refine tw_calf co2 (fun o4 co4 => ?_)
      refine tw_chk (fun _ => ?_)
      refine tw_if (fun _ => ?_) (fun _ => ?_)
      ·
        refine tw_chk (fun _ => ?_)
        refine tw_calv (fun b5 => ?_)
        refine tw_chk (fun _ => ?_)
        refine tw_calf co4 (fun o6 co6 => ?_)
        refine tw_chk (fun _ => ?_)
        refine tw_calf co6 (fun o7 co7 => ?_)
        exact tw_retX co7
      ·
        exact tw_at co4 tt_X11_mark_30
def d_X11_mark (x0 : Nat) (x1 : Int32) (x2 : Int32) (S : ZS) : Option ((Nat × Int32) × ZS) := d_X11_mark_0 x0 x1 x2 S
theorem tt_X11_mark {Pw : Int32 → ZS → Prop} {Px : Nat → ZS → Prop} {x0 : Nat} {x1 : Int32} {x2 : Int32} {S : ZS} : Tw (twP Pw Px) (d_X11_mark x0 x1 x2 S) (zt S) (zu S) (fun C T => g_X11_mark x0 x1 x2 S C T Pw Px) := tt_X11_mark_0
def d_X11_remark_33 (S : ZS) : Option ((Nat × Int32) × ZS) :=
  some ((2, 0), zsQ S)
theorem tt_X11_remark_33 {Pw : Int32 → ZS → Prop} {Px : Nat → ZS → Prop} {S : ZS} : Tw (twP Pw Px) (d_X11_remark_33 S) (zt S) (zu S) (fun C T => g_X11_remark_33 Pw Px S C T) := by
  unfold d_X11_remark_33 g_X11_remark_33
  exact tw_thr (by decide) (⟨rfl, rfl⟩ : zt S = zt S ∧ zu S = zu S)
def d_X11_remark_0 (x0 : Nat) (x1 : Int32) (x2 : Int32) (S : ZS) : Option ((Nat × Int32) × ZS) :=
  m_chk (zK S x0 = 11) (
  m_cal (zP S 7 x0) (fun b1 =>
  m_chk (zK S b1 = 1) (
  m_cal (f_X1_has b1 x1 S) (fun o2 => m_chk (zt o2.2 = zt S ∧ zu o2.2 = zu S) (
  m_if (o2.1 = 0) (
  d_X11_remark_33 o2.2
  ) (
  m_if (x2 < 0) (
  d_X11_remark_33 o2.2
  ) (
  m_chk (zK o2.2 x0 = 11) (
  m_cal (zP o2.2 7 x0) (fun b3 =>
  m_chk (zK o2.2 b3 = 1) (
  m_cal (f_X1_at b3 x1 o2.2) (fun o4 => m_chk (zt o4.2 = zt o2.2 ∧ zu o4.2 = zu o2.2) (
  m_chk (zK o4.2 o4.1 = 4) (
  m_cal (zP o4.2 6 o4.1) (fun b5 =>
  m_chk (zK o4.2 b5 = 6) (
  m_cal (f_X6_size b5 o4.2) (fun o6 => m_chk (zt o6.2 = zt o4.2 ∧ zu o6.2 = zu o4.2) (
  m_if (x2 < o6.1) (
  m_chk (zK o6.2 x0 = 11) (
  m_cal (zP o6.2 7 x0) (fun b7 =>
  m_chk (zK o6.2 b7 = 1) (
  m_cal (f_X1_at b7 x1 o6.2) (fun o8 => m_chk (zt o8.2 = zt o6.2 ∧ zu o8.2 = zu o6.2) (
  m_chk (zK o8.2 o8.1 = 4) (
  m_cal (zP o8.2 6 o8.1) (fun b9 =>
  m_chk (zK o8.2 b9 = 6) (
  m_cal (f_X6_at b9 x2 o8.2) (fun o10 => m_chk (zt o10.2 = zt o8.2 ∧ zu o10.2 = zu o8.2) (
  some ((0, o10.1), o10.2)))))))))))
  ) (
  d_X11_remark_33 o6.2
  )))))))))))
  )
  ))))))
theorem tt_X11_remark_0 {Pw : Int32 → ZS → Prop} {Px : Nat → ZS → Prop} {x0 : Nat} {x1 : Int32} {x2 : Int32} {S : ZS} : Tw (twP Pw Px) (d_X11_remark_0 x0 x1 x2 S) (zt S) (zu S) (fun C T => g_X11_remark_0 Pw Px x0 x1 x2 S C T) := by
  unfold d_X11_remark_0 g_X11_remark_0
  refine tw_chk (fun _ => ?_)
  refine tw_calv (fun b1 => ?_)
  refine tw_chk (fun _ => ?_)
  refine tw_calf (⟨rfl, rfl⟩ : zt S = zt S ∧ zu S = zu S) (fun o2 co2 => ?_)
  refine tw_if (fun _ => ?_) (fun _ => ?_)
  ·
    exact tw_at co2 tt_X11_remark_33
  ·
    refine tw_if (fun _ => ?_) (fun _ => ?_)
    ·
      exact tw_at co2 tt_X11_remark_33
    ·
      refine tw_chk (fun _ => ?_)
      refine tw_calv (fun b3 => ?_)
      refine tw_chk (fun _ => ?_)
      refine tw_calf co2 (fun o4 co4 => ?_)
      refine tw_chk (fun _ => ?_)
      refine tw_calv (fun b5 => ?_)
      refine tw_chk (fun _ => ?_)
      refine tw_calf co4 (fun o6 co6 => ?_)
      refine tw_if (fun _ => ?_) (fun _ => ?_)
      ·
        refine tw_chk (fun _ => ?_)
        refine tw_calv (fun b7 => ?_)
        refine tw_chk (fun _ => ?_)
        refine tw_calf co6 (fun o8 co8 => ?_)
        refine tw_chk (fun _ => ?_)
        refine tw_calv (fun b9 => ?_)
        refine tw_chk (fun _ => ?_)
        refine tw_calf co8 (fun o10 co10 => ?_)
        exact tw_retX co10
      ·
        exact tw_at co6 tt_X11_remark_33
def d_X11_remark (x0 : Nat) (x1 : Int32) (x2 : Int32) (S : ZS) : Option ((Nat × Int32) × ZS) := d_X11_remark_0 x0 x1 x2 S
theorem tt_X11_remark {Pw : Int32 → ZS → Prop} {Px : Nat → ZS → Prop} {x0 : Nat} {x1 : Int32} {x2 : Int32} {S : ZS} : Tw (twP Pw Px) (d_X11_remark x0 x1 x2 S) (zt S) (zu S) (fun C T => g_X11_remark x0 x1 x2 S C T Pw Px) := tt_X11_remark_0
def d_X11_go_0 (x0 : Nat) (x1 : Int32) (S : ZS) : Option ((Nat × Int32) × ZS) :=
  m_chk (zK S x0 = 11) (
  m_cal (zP S 7 x0) (fun b1 =>
  m_chk (zK S b1 = 1) (
  m_cal (f_X1_has b1 x1 S) (fun o2 => m_chk (zt o2.2 = zt S ∧ zu o2.2 = zu S) (
  m_if (o2.1 = 0) (
  some ((2, 0), zsQ o2.2)
  ) (
  m_chk (zK o2.2 x0 = 11) (
  m_bnd (zsI o2.2 8 x0 x1) (fun S3 =>
  m_chk (zK S3 x0 = 11) (
  m_cal (zP S3 7 x0) (fun b4 =>
  m_chk (zK S3 x0 = 11) (
  m_cal (zP S3 9 x0) (fun b5 =>
  m_chk (zK S3 b4 = 1) (
  m_cal (f_X1_standAt b4 x1 b5 S3) (fun o6 => m_chk (zt o6.2 = zt S3 ∧ zu o6.2 = zu S3) (
  some ((0, 0), o6.2))))))))))
  ))))))
theorem tt_X11_go_0 {Pw : Int32 → ZS → Prop} {Px : Nat → ZS → Prop} {x0 : Nat} {x1 : Int32} {S : ZS} : Tw (twP Pw Px) (d_X11_go_0 x0 x1 S) (zt S) (zu S) (fun C T => g_X11_go_0 Pw Px x0 x1 S C T) := by
  unfold d_X11_go_0 g_X11_go_0
  refine tw_chk (fun _ => ?_)
  refine tw_calv (fun b1 => ?_)
  refine tw_chk (fun _ => ?_)
  refine tw_calf (⟨rfl, rfl⟩ : zt S = zt S ∧ zu S = zu S) (fun o2 co2 => ?_)
  refine tw_if (fun _ => ?_) (fun _ => ?_)
  ·
    exact tw_thr (by decide) co2
  ·
    refine tw_chk (fun _ => ?_)
    refine tw_bnds co2 (fun S3 cS3 => ?_)
    refine tw_chk (fun _ => ?_)
    refine tw_calv (fun b4 => ?_)
    refine tw_chk (fun _ => ?_)
    refine tw_calv (fun b5 => ?_)
    refine tw_chk (fun _ => ?_)
    refine tw_calf cS3 (fun o6 co6 => ?_)
    exact tw_retX co6
def d_X11_go (x0 : Nat) (x1 : Int32) (S : ZS) : Option ((Nat × Int32) × ZS) := d_X11_go_0 x0 x1 S
theorem tt_X11_go {Pw : Int32 → ZS → Prop} {Px : Nat → ZS → Prop} {x0 : Nat} {x1 : Int32} {S : ZS} : Tw (twP Pw Px) (d_X11_go x0 x1 S) (zt S) (zu S) (fun C T => g_X11_go x0 x1 S C T Pw Px) := tt_X11_go_0
def d_X11_man_10 (S : ZS) : Option ((Nat × Int32) × ZS) :=
  some ((2, 0), zsQ S)
theorem tt_X11_man_10 {Pw : Int32 → ZS → Prop} {Px : Nat → ZS → Prop} {S : ZS} : Tw (twP Pw Px) (d_X11_man_10 S) (zt S) (zu S) (fun C T => g_X11_man_10 Pw Px S C T) := by
  unfold d_X11_man_10 g_X11_man_10
  exact tw_thr (by decide) (⟨rfl, rfl⟩ : zt S = zt S ∧ zu S = zu S)
def d_X11_man_0 (x0 : Nat) (x1 : Int32) (S : ZS) : Option ((Nat × Int32) × ZS) :=
  m_if (x1 < 0) (
  d_X11_man_10 S
  ) (
  m_if (x1 < (64 : Int32)) (
  m_chk (zK S x0 = 11) (
  m_cal (zP S 9 x0) (fun b1 =>
  m_chk (zK S b1 = 0) (
  m_cal (zP S 0 b1) (fun b2 =>
  m_chk (zK S b2 = 14) (
  m_chk (¬ (x1 < 0 ∨ zN S b2 ≤ (x1).toNatClampNeg)) (
  m_bnd (zA S b2 (x1).toNatClampNeg) (fun v3 =>
  some ((0, v3), S))))))))
  ) (
  d_X11_man_10 S
  )
  )
theorem tt_X11_man_0 {Pw : Int32 → ZS → Prop} {Px : Nat → ZS → Prop} {x0 : Nat} {x1 : Int32} {S : ZS} : Tw (twP Pw Px) (d_X11_man_0 x0 x1 S) (zt S) (zu S) (fun C T => g_X11_man_0 Pw Px x0 x1 S C T) := by
  unfold d_X11_man_0 g_X11_man_0
  refine tw_if (fun _ => ?_) (fun _ => ?_)
  ·
    exact tw_at (⟨rfl, rfl⟩ : zt S = zt S ∧ zu S = zu S) tt_X11_man_10
  ·
    refine tw_if (fun _ => ?_) (fun _ => ?_)
    ·
      refine tw_chk (fun _ => ?_)
      refine tw_calv (fun b1 => ?_)
      refine tw_chk (fun _ => ?_)
      refine tw_calv (fun b2 => ?_)
      refine tw_chk (fun _ => ?_)
      refine tw_chk (fun _ => ?_)
      refine tw_bndv (fun v3 => ?_)
      exact tw_retX (⟨rfl, rfl⟩ : zt S = zt S ∧ zu S = zu S)
    ·
      exact tw_at (⟨rfl, rfl⟩ : zt S = zt S ∧ zu S = zu S) tt_X11_man_10
def d_X11_man (x0 : Nat) (x1 : Int32) (S : ZS) : Option ((Nat × Int32) × ZS) := d_X11_man_0 x0 x1 S
theorem tt_X11_man {Pw : Int32 → ZS → Prop} {Px : Nat → ZS → Prop} {x0 : Nat} {x1 : Int32} {S : ZS} : Tw (twP Pw Px) (d_X11_man x0 x1 S) (zt S) (zu S) (fun C T => g_X11_man x0 x1 S C T Pw Px) := tt_X11_man_0
def d_X11_add_95 (x0 : Nat) (x1 : Int32) (x2 : Int32) (S : ZS) : Option ((Nat × Int32) × ZS) :=
  m_chk (zK S x0 = 11) (
  m_bnd (zsI S 8 x0 x2) (fun S1 =>
  m_chk (zK S1 x0 = 11) (
  m_cal (zP S1 9 x0) (fun b2 =>
  m_chk (zK S1 b2 = 0) (
  m_cal (f_X0_play b2 x1 S1) (fun o3 => m_chk (zt o3.2 = zt S1 ∧ zu o3.2 = zu S1) (
  some ((0, x2), o3.2))))))))
theorem tt_X11_add_95 {Pw : Int32 → ZS → Prop} {Px : Nat → ZS → Prop} {x0 : Nat} {x1 : Int32} {x2 : Int32} {S : ZS} : Tw (twP Pw Px) (d_X11_add_95 x0 x1 x2 S) (zt S) (zu S) (fun C T => g_X11_add_95 Pw Px x0 x1 x2 S C T) := by
  unfold d_X11_add_95 g_X11_add_95
  refine tw_chk (fun _ => ?_)
  refine tw_bnds (⟨rfl, rfl⟩ : zt S = zt S ∧ zu S = zu S) (fun S1 cS1 => ?_)
  refine tw_chk (fun _ => ?_)
  refine tw_calv (fun b2 => ?_)
  refine tw_chk (fun _ => ?_)
  refine tw_calf cS1 (fun o3 co3 => ?_)
  exact tw_retX co3
def d_X11_add_72 (S : ZS) : Option ((Nat × Int32) × ZS) :=
  some ((3, 0), zsQ S)
theorem tt_X11_add_72 {Pw : Int32 → ZS → Prop} {Px : Nat → ZS → Prop} {S : ZS} : Tw (twP Pw Px) (d_X11_add_72 S) (zt S) (zu S) (fun C T => g_X11_add_72 Pw Px S C T) := by
  unfold d_X11_add_72 g_X11_add_72
  exact tw_thr (by decide) (⟨rfl, rfl⟩ : zt S = zt S ∧ zu S = zu S)
def d_X11_add_0 (x0 : Nat) (x1 : Int32) (S : ZS) : Option ((Nat × Int32) × ZS) :=
  m_chk (zK S x0 = 11) (
  m_cal (zP S 2 x0) (fun b1 =>
  m_chk (zK S x0 = 11) (
  m_cal (zP S 9 x0) (fun b2 =>
  m_chk (zK S b1 = 7) (
  m_cal (f_X7_isLegal b1 b2 x1 S) (fun o3 => m_chk (zt o3.2 = zt S ∧ zu o3.2 = zu S) (
  m_if (o3.1 = 0) (
  some ((1, 0), zsQ o3.2)
  ) (
  m_chk (zK o3.2 x0 = 11) (
  m_cal (zP o3.2 7 x0) (fun b4 =>
  m_chk (zK o3.2 x0 = 11) (
  m_chk (zK o3.2 b4 = 1) (
  m_cal (f_X1_childWith b4 (zI o3.2 8 x0) x1 o3.2) (fun o5 => m_chk (zt o5.2 = zt o3.2 ∧ zu o5.2 = zu o3.2) (
  m_if (o5.1 = (-1 : Int32)) (
  m_chk (zK o5.2 x0 = 11) (
  m_cal (zP o5.2 7 x0) (fun b6 =>
  m_chk (zK o5.2 b6 = 1) (
  m_if ((300 : Int32) ≤ (zI o5.2 3 b6)) (
  d_X11_add_72 o5.2
  ) (
  m_chk (zK o5.2 x0 = 11) (
  m_cal (zP o5.2 7 x0) (fun b7 =>
  m_chk (zK o5.2 x0 = 11) (
  m_chk (zK o5.2 b7 = 1) (
  m_cal (f_X1_deepOfNext b7 (zI o5.2 8 x0) o5.2) (fun o8 => m_chk (zt o8.2 = zt o5.2 ∧ zu o8.2 = zu o5.2) (
  m_if (o8.1 ≤ (6 : Int32)) (
  m_chk (zK o8.2 x0 = 11) (
  m_cal (zP o8.2 7 x0) (fun b9 =>
  m_chk (zK o8.2 x0 = 11) (
  m_chk (zK o8.2 b9 = 1) (
  m_cal2 (d_X1_grow b9 (zI o8.2 8 x0) x1 o8.2) (fun r11 S12 =>
  d_X11_add_95 x0 x1 r11 S12)))))
  ) (
  d_X11_add_72 o8.2
  )))))))
  ))))
  ) (
  d_X11_add_95 x0 x1 o5.1 o5.2
  )))))))
  ))))))))
theorem tt_X11_add_0 {Pw : Int32 → ZS → Prop} {Px : Nat → ZS → Prop} {x0 : Nat} {x1 : Int32} {S : ZS} : Tw (twP Pw Px) (d_X11_add_0 x0 x1 S) (zt S) (zu S) (fun C T => g_X11_add_0 Pw Px x0 x1 S C T) := by
  unfold d_X11_add_0 g_X11_add_0
  refine tw_chk (fun _ => ?_)
  refine tw_calv (fun b1 => ?_)
  refine tw_chk (fun _ => ?_)
  refine tw_calv (fun b2 => ?_)
  refine tw_chk (fun _ => ?_)
  refine tw_calf (⟨rfl, rfl⟩ : zt S = zt S ∧ zu S = zu S) (fun o3 co3 => ?_)
  refine tw_if (fun _ => ?_) (fun _ => ?_)
  ·
    exact tw_thr (by decide) co3
  ·
    refine tw_chk (fun _ => ?_)
    refine tw_calv (fun b4 => ?_)
    refine tw_chk (fun _ => ?_)
    refine tw_chk (fun _ => ?_)
    refine tw_calf co3 (fun o5 co5 => ?_)
    refine tw_if (fun _ => ?_) (fun _ => ?_)
    ·
      refine tw_chk (fun _ => ?_)
      refine tw_calv (fun b6 => ?_)
      refine tw_chk (fun _ => ?_)
      refine tw_if (fun _ => ?_) (fun _ => ?_)
      ·
        exact tw_at co5 tt_X11_add_72
      ·
        refine tw_chk (fun _ => ?_)
        refine tw_calv (fun b7 => ?_)
        refine tw_chk (fun _ => ?_)
        refine tw_chk (fun _ => ?_)
        refine tw_calf co5 (fun o8 co8 => ?_)
        refine tw_if (fun _ => ?_) (fun _ => ?_)
        ·
          refine tw_chk (fun _ => ?_)
          refine tw_calv (fun b9 => ?_)
          refine tw_chk (fun _ => ?_)
          refine tw_chk (fun _ => ?_)
          refine tw_gal (fun Pw9 => tw_at co8 tt_X1_grow) (fun r11 S12 => ?_)
          exact tw_at (⟨rfl, rfl⟩ : zt S12 = zt S12 ∧ zu S12 = zu S12) tt_X11_add_95
        ·
          exact tw_at co8 tt_X11_add_72
    ·
      exact tw_at co5 tt_X11_add_95
def d_X11_add (x0 : Nat) (x1 : Int32) (S : ZS) : Option ((Nat × Int32) × ZS) := d_X11_add_0 x0 x1 S
theorem tt_X11_add {Pw : Int32 → ZS → Prop} {Px : Nat → ZS → Prop} {x0 : Nat} {x1 : Int32} {S : ZS} : Tw (twP Pw Px) (d_X11_add x0 x1 S) (zt S) (zu S) (fun C T => g_X11_add x0 x1 S C T Pw Px) := tt_X11_add_0
def d_X11_addMark_11 (S : ZS) : Option ((Nat × Int32) × ZS) :=
  some ((1, 0), zsQ S)
theorem tt_X11_addMark_11 {Pw : Int32 → ZS → Prop} {Px : Nat → ZS → Prop} {S : ZS} : Tw (twP Pw Px) (d_X11_addMark_11 S) (zt S) (zu S) (fun C T => g_X11_addMark_11 Pw Px S C T) := by
  unfold d_X11_addMark_11 g_X11_addMark_11
  exact tw_thr (by decide) (⟨rfl, rfl⟩ : zt S = zt S ∧ zu S = zu S)
def d_X11_addMark_48 (S : ZS) : Option ((Nat × Int32) × ZS) :=
  some ((4, 0), zsQ S)
theorem tt_X11_addMark_48 {Pw : Int32 → ZS → Prop} {Px : Nat → ZS → Prop} {S : ZS} : Tw (twP Pw Px) (d_X11_addMark_48 S) (zt S) (zu S) (fun C T => g_X11_addMark_48 Pw Px S C T) := by
  unfold d_X11_addMark_48 g_X11_addMark_48
  exact tw_thr (by decide) (⟨rfl, rfl⟩ : zt S = zt S ∧ zu S = zu S)
def d_X11_addMark_0 (x0 : Nat) (x1 : Int32) (S : ZS) : Option ((Nat × Int32) × ZS) :=
  m_if (x1 < 0) (
  d_X11_addMark_11 S
  ) (
  m_if (x1 ≤ (255 : Int32)) (
  m_chk (zK S x0 = 11) (
  m_cal (zP S 7 x0) (fun b1 =>
  m_chk (zK S x0 = 11) (
  m_chk (zK S b1 = 1) (
  m_cal (f_X1_at b1 (zI S 8 x0) S) (fun o2 => m_chk (zt o2.2 = zt S ∧ zu o2.2 = zu S) (
  m_chk (zK o2.2 x0 = 11) (
  m_if ((zI o2.2 8 x0) = 0) (
  d_X11_addMark_48 o2.2
  ) (
  m_chk (zK o2.2 o2.1 = 4) (
  m_if ((zI o2.2 4 o2.1) < (4 : Int32)) (
  m_chk (zK o2.2 o2.1 = 4) (
  m_cal (f_X4_putMark o2.1 x1 o2.2) (fun o3 => m_chk (zt o3.2 = zt o2.2 ∧ zu o3.2 = zu o2.2) (
  m_chk (zK o3.2 o2.1 = 4) (
  some ((0, (zI o3.2 4 o2.1)), o3.2)))))
  ) (
  d_X11_addMark_48 o2.2
  ))
  ))))))))
  ) (
  d_X11_addMark_11 S
  )
  )
theorem tt_X11_addMark_0 {Pw : Int32 → ZS → Prop} {Px : Nat → ZS → Prop} {x0 : Nat} {x1 : Int32} {S : ZS} : Tw (twP Pw Px) (d_X11_addMark_0 x0 x1 S) (zt S) (zu S) (fun C T => g_X11_addMark_0 Pw Px x0 x1 S C T) := by
  unfold d_X11_addMark_0 g_X11_addMark_0
  refine tw_if (fun _ => ?_) (fun _ => ?_)
  ·
    exact tw_at (⟨rfl, rfl⟩ : zt S = zt S ∧ zu S = zu S) tt_X11_addMark_11
  ·
    refine tw_if (fun _ => ?_) (fun _ => ?_)
    ·
      refine tw_chk (fun _ => ?_)
      refine tw_calv (fun b1 => ?_)
      refine tw_chk (fun _ => ?_)
      refine tw_chk (fun _ => ?_)
      refine tw_calf (⟨rfl, rfl⟩ : zt S = zt S ∧ zu S = zu S) (fun o2 co2 => ?_)
      refine tw_chk (fun _ => ?_)
      refine tw_if (fun _ => ?_) (fun _ => ?_)
      ·
        exact tw_at co2 tt_X11_addMark_48
      ·
        refine tw_chk (fun _ => ?_)
        refine tw_if (fun _ => ?_) (fun _ => ?_)
        ·
          refine tw_chk (fun _ => ?_)
          refine tw_calf co2 (fun o3 co3 => ?_)
          refine tw_chk (fun _ => ?_)
          exact tw_retX co3
        ·
          exact tw_at co2 tt_X11_addMark_48
    ·
      exact tw_at (⟨rfl, rfl⟩ : zt S = zt S ∧ zu S = zu S) tt_X11_addMark_11
def d_X11_addMark (x0 : Nat) (x1 : Int32) (S : ZS) : Option ((Nat × Int32) × ZS) := d_X11_addMark_0 x0 x1 S
theorem tt_X11_addMark {Pw : Int32 → ZS → Prop} {Px : Nat → ZS → Prop} {x0 : Nat} {x1 : Int32} {S : ZS} : Tw (twP Pw Px) (d_X11_addMark x0 x1 S) (zt S) (zu S) (fun C T => g_X11_addMark x0 x1 S C T Pw Px) := tt_X11_addMark_0
def d_X11_say_43 (S : ZS) : Option ((Nat × Int32) × ZS) :=
  some ((1, 0), zsQ S)
theorem tt_X11_say_43 {Pw : Int32 → ZS → Prop} {Px : Nat → ZS → Prop} {S : ZS} : Tw (twP Pw Px) (d_X11_say_43 S) (zt S) (zu S) (fun C T => g_X11_say_43 Pw Px S C T) := by
  unfold d_X11_say_43 g_X11_say_43
  exact tw_thr (by decide) (⟨rfl, rfl⟩ : zt S = zt S ∧ zu S = zu S)
def d_X11_say_0 (x0 : Nat) (S : ZS) : Option ((Nat × Int32) × ZS) :=
  m_chk (zK S x0 = 11) (
  m_cal (zP S 0 x0) (fun b1 =>
  m_chk (zK S b1 = 6) (
  m_cal (f_X6_size b1 S) (fun o2 => m_chk (zt o2.2 = zt S ∧ zu o2.2 = zu S) (
  m_if ((200 : Int32) < o2.1) (
  d_X11_say_43 o2.2
  ) (
  m_chk (zK o2.2 x0 = 11) (
  m_cal (zP o2.2 0 x0) (fun b3 =>
  m_chk (zK o2.2 b3 = 6) (
  m_cal (f_X6_indexOf b3 (125 : Int32) (0 : Int32) o2.2) (fun o4 => m_chk (zt o4.2 = zt o2.2 ∧ zu o4.2 = zu o2.2) (
  m_if (o4.1 < o2.1) (
  d_X11_say_43 o4.2
  ) (
  m_chk (zK o4.2 x0 = 11) (
  m_cal (zP o4.2 0 x0) (fun b5 =>
  m_chk (zK o4.2 b5 = 6) (
  m_cal (f_X6_indexOf b5 (10 : Int32) (0 : Int32) o4.2) (fun o6 => m_chk (zt o6.2 = zt o4.2 ∧ zu o6.2 = zu o4.2) (
  m_if (o2.1 ≤ o6.1) (
  m_chk (zK o6.2 x0 = 11) (
  m_cal (zP o6.2 7 x0) (fun b7 =>
  m_chk (zK o6.2 x0 = 11) (
  m_chk (zK o6.2 b7 = 1) (
  m_cal (f_X1_at b7 (zI o6.2 8 x0) o6.2) (fun o8 => m_chk (zt o8.2 = zt o6.2 ∧ zu o8.2 = zu o6.2) (
  m_chk (zK o8.2 o8.1 = 4) (
  m_cal (zP o8.2 6 o8.1) (fun b9 =>
  m_chk (zK o8.2 x0 = 11) (
  m_cal (zP o8.2 0 x0) (fun b10 =>
  m_chk (zK o8.2 b9 = 6) (
  m_cal2 (d_X6_copyFrom b9 b10 o8.2) (fun r12 S13 =>
  m_chk (zK S13 x0 = 11) (
  m_cal (zP S13 0 x0) (fun b16 =>
  m_chk (zK S13 b16 = 6) (
  m_cal (f_X6_keep b16 (0 : Int32) S13) (fun o17 => m_chk (zt o17.2 = zt S13 ∧ zu o17.2 = zu S13) (
  some ((0, o2.1), o17.2))))))))))))))))))
  ) (
  d_X11_say_43 o6.2
  ))))))
  ))))))
  ))))))
theorem tt_X11_say_0 {Pw : Int32 → ZS → Prop} {Px : Nat → ZS → Prop} {x0 : Nat} {S : ZS} : Tw (twP Pw Px) (d_X11_say_0 x0 S) (zt S) (zu S) (fun C T => g_X11_say_0 Pw Px x0 S C T) := by
  unfold d_X11_say_0 g_X11_say_0
  refine tw_chk (fun _ => ?_)
  refine tw_calv (fun b1 => ?_)
  refine tw_chk (fun _ => ?_)
  refine tw_calf (⟨rfl, rfl⟩ : zt S = zt S ∧ zu S = zu S) (fun o2 co2 => ?_)
  refine tw_if (fun _ => ?_) (fun _ => ?_)
  ·
    exact tw_at co2 tt_X11_say_43
  ·
    refine tw_chk (fun _ => ?_)
    refine tw_calv (fun b3 => ?_)
    refine tw_chk (fun _ => ?_)
    refine tw_calf co2 (fun o4 co4 => ?_)
    refine tw_if (fun _ => ?_) (fun _ => ?_)
    ·
      exact tw_at co4 tt_X11_say_43
    ·
      refine tw_chk (fun _ => ?_)
      refine tw_calv (fun b5 => ?_)
      refine tw_chk (fun _ => ?_)
      refine tw_calf co4 (fun o6 co6 => ?_)
      refine tw_if (fun _ => ?_) (fun _ => ?_)
      ·
        refine tw_chk (fun _ => ?_)
        refine tw_calv (fun b7 => ?_)
        refine tw_chk (fun _ => ?_)
        refine tw_chk (fun _ => ?_)
        refine tw_calf co6 (fun o8 co8 => ?_)
        refine tw_chk (fun _ => ?_)
        refine tw_calv (fun b9 => ?_)
        refine tw_chk (fun _ => ?_)
        refine tw_calv (fun b10 => ?_)
        refine tw_chk (fun _ => ?_)
        refine tw_gal (fun Pw9 => tw_at co8 tt_X6_copyFrom) (fun r12 S13 => ?_)
        refine tw_chk (fun _ => ?_)
        refine tw_calv (fun b16 => ?_)
        refine tw_chk (fun _ => ?_)
        refine tw_calf (⟨rfl, rfl⟩ : zt S13 = zt S13 ∧ zu S13 = zu S13) (fun o17 co17 => ?_)
        exact tw_retX co17
      ·
        exact tw_at co6 tt_X11_say_43
def d_X11_say (x0 : Nat) (S : ZS) : Option ((Nat × Int32) × ZS) := d_X11_say_0 x0 S
theorem tt_X11_say {Pw : Int32 → ZS → Prop} {Px : Nat → ZS → Prop} {x0 : Nat} {S : ZS} : Tw (twP Pw Px) (d_X11_say x0 S) (zt S) (zu S) (fun C T => g_X11_say x0 S C T Pw Px) := tt_X11_say_0
def d_X11_lead_0 (x0 : Nat) (S : ZS) : Option ((Nat × Int32) × ZS) :=
  m_chk (zK S x0 = 11) (
  m_if ((zI S 8 x0) = 0) (
  some ((4, 0), zsQ S)
  ) (
  m_chk (zK S x0 = 11) (
  m_cal (zP S 7 x0) (fun b1 =>
  m_chk (zK S x0 = 11) (
  m_chk (zK S b1 = 1) (
  m_cal (f_X1_goesOn b1 (zI S 8 x0) S) (fun o2 => m_chk (zt o2.2 = zt S ∧ zu o2.2 = zu S) (
  m_if (o2.1 = 0) (
  m_chk (zK o2.2 x0 = 11) (
  m_cal (zP o2.2 7 x0) (fun b3 =>
  m_chk (zK o2.2 x0 = 11) (
  m_chk (zK o2.2 b3 = 1) (
  m_cal (f_X1_mayLead b3 (zI o2.2 8 x0) o2.2) (fun o4 => m_chk (zt o4.2 = zt o2.2 ∧ zu o4.2 = zu o2.2) (
  m_if (o4.1 = 0) (
  some ((4, 0), zsQ o4.2)
  ) (
  m_chk (zK o4.2 x0 = 11) (
  m_cal (zP o4.2 7 x0) (fun b5 =>
  m_chk (zK o4.2 x0 = 11) (
  m_chk (zK o4.2 b5 = 1) (
  m_cal (f_X1_putFirst b5 (zI o4.2 8 x0) o4.2) (fun o6 => m_chk (zt o6.2 = zt o4.2 ∧ zu o6.2 = zu o4.2) (
  m_chk (vp_nar .boolean (1 : Int32) = (1 : Int32)) (
  some ((0, (1 : Int32)), o6.2))))))))
  )))))))
  ) (
  m_chk (vp_nar .boolean (0 : Int32) = (0 : Int32)) (
  some ((0, (0 : Int32)), o2.2))
  )))))))
  ))
theorem tt_X11_lead_0 {Pw : Int32 → ZS → Prop} {Px : Nat → ZS → Prop} {x0 : Nat} {S : ZS} : Tw (twP Pw Px) (d_X11_lead_0 x0 S) (zt S) (zu S) (fun C T => g_X11_lead_0 Pw Px x0 S C T) := by
  unfold d_X11_lead_0 g_X11_lead_0
  refine tw_chk (fun _ => ?_)
  refine tw_if (fun _ => ?_) (fun _ => ?_)
  ·
    exact tw_thr (by decide) (⟨rfl, rfl⟩ : zt S = zt S ∧ zu S = zu S)
  ·
    refine tw_chk (fun _ => ?_)
    refine tw_calv (fun b1 => ?_)
    refine tw_chk (fun _ => ?_)
    refine tw_chk (fun _ => ?_)
    refine tw_calf (⟨rfl, rfl⟩ : zt S = zt S ∧ zu S = zu S) (fun o2 co2 => ?_)
    refine tw_if (fun _ => ?_) (fun _ => ?_)
    ·
      refine tw_chk (fun _ => ?_)
      refine tw_calv (fun b3 => ?_)
      refine tw_chk (fun _ => ?_)
      refine tw_chk (fun _ => ?_)
      refine tw_calf co2 (fun o4 co4 => ?_)
      refine tw_if (fun _ => ?_) (fun _ => ?_)
      ·
        exact tw_thr (by decide) co4
      ·
        refine tw_chk (fun _ => ?_)
        refine tw_calv (fun b5 => ?_)
        refine tw_chk (fun _ => ?_)
        refine tw_chk (fun _ => ?_)
        refine tw_calf co4 (fun o6 co6 => ?_)
        refine tw_chk (fun _ => ?_)
        exact tw_retX co6
    ·
      refine tw_chk (fun _ => ?_)
      exact tw_retX co2
def d_X11_lead (x0 : Nat) (S : ZS) : Option ((Nat × Int32) × ZS) := d_X11_lead_0 x0 S
theorem tt_X11_lead {Pw : Int32 → ZS → Prop} {Px : Nat → ZS → Prop} {x0 : Nat} {S : ZS} : Tw (twP Pw Px) (d_X11_lead x0 S) (zt S) (zu S) (fun C T => g_X11_lead x0 S C T Pw Px) := tt_X11_lead_0
def d_X11_end_9 (S : ZS) : Option ((Nat × Int32) × ZS) :=
  some ((1, 0), zsQ S)
theorem tt_X11_end_9 {Pw : Int32 → ZS → Prop} {Px : Nat → ZS → Prop} {S : ZS} : Tw (twP Pw Px) (d_X11_end_9 S) (zt S) (zu S) (fun C T => g_X11_end_9 Pw Px S C T) := by
  unfold d_X11_end_9 g_X11_end_9
  exact tw_thr (by decide) (⟨rfl, rfl⟩ : zt S = zt S ∧ zu S = zu S)
def d_X11_end_0 (x0 : Nat) (x1 : Int32) (S : ZS) : Option ((Nat × Int32) × ZS) :=
  m_if (x1 < 0) (
  d_X11_end_9 S
  ) (
  m_if (x1 < (4 : Int32)) (
  m_chk (zK S x0 = 11) (
  m_cal (zP S 7 x0) (fun b1 =>
  m_chk (zK S b1 = 1) (
  m_bnd (zsI S 6 b1 x1) (fun S2 =>
  some ((0, 0), S2)))))
  ) (
  d_X11_end_9 S
  )
  )
theorem tt_X11_end_0 {Pw : Int32 → ZS → Prop} {Px : Nat → ZS → Prop} {x0 : Nat} {x1 : Int32} {S : ZS} : Tw (twP Pw Px) (d_X11_end_0 x0 x1 S) (zt S) (zu S) (fun C T => g_X11_end_0 Pw Px x0 x1 S C T) := by
  unfold d_X11_end_0 g_X11_end_0
  refine tw_if (fun _ => ?_) (fun _ => ?_)
  ·
    exact tw_at (⟨rfl, rfl⟩ : zt S = zt S ∧ zu S = zu S) tt_X11_end_9
  ·
    refine tw_if (fun _ => ?_) (fun _ => ?_)
    ·
      refine tw_chk (fun _ => ?_)
      refine tw_calv (fun b1 => ?_)
      refine tw_chk (fun _ => ?_)
      refine tw_bnds (⟨rfl, rfl⟩ : zt S = zt S ∧ zu S = zu S) (fun S2 cS2 => ?_)
      exact tw_retX cS2
    ·
      exact tw_at (⟨rfl, rfl⟩ : zt S = zt S ∧ zu S = zu S) tt_X11_end_9
def d_X11_end (x0 : Nat) (x1 : Int32) (S : ZS) : Option ((Nat × Int32) × ZS) := d_X11_end_0 x0 x1 S
theorem tt_X11_end {Pw : Int32 → ZS → Prop} {Px : Nat → ZS → Prop} {x0 : Nat} {x1 : Int32} {S : ZS} : Tw (twP Pw Px) (d_X11_end x0 x1 S) (zt S) (zu S) (fun C T => g_X11_end x0 x1 S C T Pw Px) := tt_X11_end_0
def d_X11_tag_19 (S : ZS) : Option ((Nat × Int32) × ZS) :=
  some ((2, 0), zsQ S)
theorem tt_X11_tag_19 {Pw : Int32 → ZS → Prop} {Px : Nat → ZS → Prop} {S : ZS} : Tw (twP Pw Px) (d_X11_tag_19 S) (zt S) (zu S) (fun C T => g_X11_tag_19 Pw Px S C T) := by
  unfold d_X11_tag_19 g_X11_tag_19
  exact tw_thr (by decide) (⟨rfl, rfl⟩ : zt S = zt S ∧ zu S = zu S)
def d_X11_tag_65 (t0 : Int32) (S : ZS) : Option ((Nat × Int32) × ZS) :=
  some ((0, t0), S)
theorem tt_X11_tag_65 {Pw : Int32 → ZS → Prop} {Px : Nat → ZS → Prop} {t0 : Int32} {S : ZS} : Tw (twP Pw Px) (d_X11_tag_65 t0 S) (zt S) (zu S) (fun C T => g_X11_tag_65 Pw Px t0 S C T) := by
  unfold d_X11_tag_65 g_X11_tag_65
  exact tw_retX (⟨rfl, rfl⟩ : zt S = zt S ∧ zu S = zu S)
def d_X11_tag_0 (x0 : Nat) (x1 : Int32) (x2 : Int32) (x3 : Int32) (S : ZS) : Option ((Nat × Int32) × ZS) :=
  m_if (x1 < 0) (
  d_X11_tag_19 S
  ) (
  m_chk (zK S x0 = 11) (
  m_cal (zP S 7 x0) (fun b1 =>
  m_chk (zK S b1 = 1) (
  m_if ((zI S 5 b1) ≤ x1) (
  d_X11_tag_19 S
  ) (
  m_if (0 ≤ x3) (
  m_chk (zK S x0 = 11) (
  m_cal (zP S 7 x0) (fun b2 =>
  m_chk (zK S b2 = 1) (
  m_cal2 (d_X1_tagAt b2 x1 S) (fun r4 S5 =>
  m_if (x2 = 0) (
  m_chk (zK S5 r4 = 10) (
  m_cal (zP S5 0 r4) (fun b8 =>
  m_chk (zK S5 b8 = 6) (
  m_cal (f_X6_at b8 x3 S5) (fun o9 => m_chk (zt o9.2 = zt S5 ∧ zu o9.2 = zu S5) (
  d_X11_tag_65 o9.1 o9.2)))))
  ) (
  m_chk (zK S5 r4 = 10) (
  m_cal (zP S5 1 r4) (fun b10 =>
  m_chk (zK S5 b10 = 6) (
  m_cal (f_X6_at b10 x3 S5) (fun o11 => m_chk (zt o11.2 = zt S5 ∧ zu o11.2 = zu S5) (
  d_X11_tag_65 o11.1 o11.2)))))
  )))))
  ) (
  d_X11_tag_19 S
  )
  ))))
  )
theorem tt_X11_tag_0 {Pw : Int32 → ZS → Prop} {Px : Nat → ZS → Prop} {x0 : Nat} {x1 : Int32} {x2 : Int32} {x3 : Int32} {S : ZS} : Tw (twP Pw Px) (d_X11_tag_0 x0 x1 x2 x3 S) (zt S) (zu S) (fun C T => g_X11_tag_0 Pw Px x0 x1 x2 x3 S C T) := by
  unfold d_X11_tag_0 g_X11_tag_0
  refine tw_if (fun _ => ?_) (fun _ => ?_)
  ·
    exact tw_at (⟨rfl, rfl⟩ : zt S = zt S ∧ zu S = zu S) tt_X11_tag_19
  ·
    refine tw_chk (fun _ => ?_)
    refine tw_calv (fun b1 => ?_)
    refine tw_chk (fun _ => ?_)
    refine tw_if (fun _ => ?_) (fun _ => ?_)
    ·
      exact tw_at (⟨rfl, rfl⟩ : zt S = zt S ∧ zu S = zu S) tt_X11_tag_19
    ·
      refine tw_if (fun _ => ?_) (fun _ => ?_)
      ·
        refine tw_chk (fun _ => ?_)
        refine tw_calv (fun b2 => ?_)
        refine tw_chk (fun _ => ?_)
        refine tw_galN (fun Pw9 => tw_at (⟨rfl, rfl⟩ : zt S = zt S ∧ zu S = zu S) tt_X1_tagAt) (fun r4 S5 => ?_)
        refine tw_if (fun _ => ?_) (fun _ => ?_)
        ·
          refine tw_chk (fun _ => ?_)
          refine tw_calv (fun b8 => ?_)
          refine tw_chk (fun _ => ?_)
          refine tw_calf (⟨rfl, rfl⟩ : zt S5 = zt S5 ∧ zu S5 = zu S5) (fun o9 co9 => ?_)
          exact tw_at co9 tt_X11_tag_65
        ·
          refine tw_chk (fun _ => ?_)
          refine tw_calv (fun b10 => ?_)
          refine tw_chk (fun _ => ?_)
          refine tw_calf (⟨rfl, rfl⟩ : zt S5 = zt S5 ∧ zu S5 = zu S5) (fun o11 co11 => ?_)
          exact tw_at co11 tt_X11_tag_65
      ·
        exact tw_at (⟨rfl, rfl⟩ : zt S = zt S ∧ zu S = zu S) tt_X11_tag_19
def d_X11_tag (x0 : Nat) (x1 : Int32) (x2 : Int32) (x3 : Int32) (S : ZS) : Option ((Nat × Int32) × ZS) := d_X11_tag_0 x0 x1 x2 x3 S
theorem tt_X11_tag {Pw : Int32 → ZS → Prop} {Px : Nat → ZS → Prop} {x0 : Nat} {x1 : Int32} {x2 : Int32} {x3 : Int32} {S : ZS} : Tw (twP Pw Px) (d_X11_tag x0 x1 x2 x3 S) (zt S) (zu S) (fun C T => g_X11_tag x0 x1 x2 x3 S C T Pw Px) := tt_X11_tag_0
