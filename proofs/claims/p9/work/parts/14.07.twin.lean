def d_X11_read (x0 : Nat) (S : ZS) : Option (Int32 × ZS) := d_X11_read_0 x0 S
theorem tt_X11_read {Pw : Int32 → ZS → Prop} {x0 : Nat} {S : ZS} : Tw Pw (d_X11_read x0 S) (zt S) (zu S) (fun C T => g_X11_read x0 S C T Pw) := tt_X11_read_0
def d_X11_find_0 (x0 : Nat) (S : ZS) : Option (Int32 × ZS) :=
  m_chk (zK S x0 = 11) (
  m_cal (zP S 3 x0) (fun b1 =>
  m_chk (zK S x0 = 11) (
  m_cal (zP S 9 x0) (fun b2 =>
  m_chk (zK S x0 = 11) (
  m_cal (zP S 0 x0) (fun b3 =>
  m_chk (zK S x0 = 11) (
  m_cal (zP S 0 x0) (fun b4 =>
  m_chk (zK S b4 = 6) (
  m_cal (f_X6_size b4 S) (fun o5 => m_chk (zt o5.2 = zt S ∧ zu o5.2 = zu S) (
  m_chk (zK o5.2 b1 = 8) (
  m_cal2 (d_X8_matched b1 b2 b3 (0 : Int32) o5.1 o5.2) (fun r7 S8 =>
  some (r7, S8))))))))))))))
theorem tt_X11_find_0 {Pw : Int32 → ZS → Prop}   {x0 : Nat} {S : ZS} : Tw Pw (d_X11_find_0 x0 S) (zt S) (zu S) (fun C T => g_X11_find_0 Pw x0 S C T) := by
  unfold d_X11_find_0 g_X11_find_0
  refine tw_chk (fun _ => ?_)
  refine tw_calv (fun b1 => ?_)
  refine tw_chk (fun _ => ?_)
  refine tw_calv (fun b2 => ?_)
  refine tw_chk (fun _ => ?_)
  refine tw_calv (fun b3 => ?_)
  refine tw_chk (fun _ => ?_)
  refine tw_calv (fun b4 => ?_)
  refine tw_chk (fun _ => ?_)
  refine tw_calf (⟨rfl, rfl⟩ : zt S = zt S ∧ zu S = zu S) (fun o5 co5 => ?_)
  refine tw_chk (fun _ => ?_)
  refine tw_gal (fun Pw9 => tw_at co5 tt_X8_matched) (fun r7 S8 => ?_)
  exact tw_ret (⟨rfl, rfl⟩ : zt S8 = zt S8 ∧ zu S8 = zu S8)
def d_X11_find (x0 : Nat) (S : ZS) : Option (Int32 × ZS) := d_X11_find_0 x0 S
theorem tt_X11_find {Pw : Int32 → ZS → Prop} {x0 : Nat} {S : ZS} : Tw Pw (d_X11_find x0 S) (zt S) (zu S) (fun C T => g_X11_find x0 S C T Pw) := tt_X11_find_0
def d_X11_write_0 (x0 : Nat) (S : ZS) : Option (Int32 × ZS) :=
  m_chk (zK S x0 = 11) (
  m_cal (zP S 1 x0) (fun b1 =>
  m_chk (zK S b1 = 6) (
  m_cal (f_X6_keep b1 (0 : Int32) S) (fun o2 => m_chk (zt o2.2 = zt S ∧ zu o2.2 = zu S) (
  m_chk (zK o2.2 x0 = 11) (
  m_cal (zP o2.2 6 x0) (fun b3 =>
  m_chk (zK o2.2 x0 = 11) (
  m_cal (zP o2.2 7 x0) (fun b4 =>
  m_chk (zK o2.2 x0 = 11) (
  m_cal (zP o2.2 1 x0) (fun b5 =>
  m_chk (zK o2.2 b3 = 3) (
  m_cal2 (d_X3_putHead b3 b4 b5 o2.2) (fun r7 S8 =>
  m_chk (zK S8 x0 = 11) (
  m_cal (zP S8 6 x0) (fun b11 =>
  m_chk (zK S8 x0 = 11) (
  m_cal (zP S8 7 x0) (fun b12 =>
  m_chk (zK S8 x0 = 11) (
  m_cal (zP S8 7 x0) (fun b13 =>
  m_chk (zK S8 b13 = 1) (
  m_cal (f_X1_at b13 (0 : Int32) S8) (fun o14 => m_chk (zt o14.2 = zt S8 ∧ zu o14.2 = zu S8) (
  m_chk (zK o14.2 o14.1 = 4) (
  m_chk (zK o14.2 x0 = 11) (
  m_cal (zP o14.2 1 x0) (fun b15 =>
  m_chk (zK o14.2 b11 = 3) (
  m_cal2 (d_X3_putLine b11 b12 (zI o14.2 2 o14.1) (0 : Int32) b15 o14.2) (fun r17 S18 =>
  m_chk (zK S18 x0 = 11) (
  m_cal (zP S18 6 x0) (fun b21 =>
  m_chk (zK S18 x0 = 11) (
  m_cal (zP S18 7 x0) (fun b22 =>
  m_chk (zK S18 x0 = 11) (
  m_cal (zP S18 1 x0) (fun b23 =>
  m_chk (zK S18 b21 = 3) (
  m_cal2 (d_X3_putEnd b21 b22 b23 S18) (fun r25 S26 =>
  m_chk (zK S26 x0 = 11) (
  m_cal (zP S26 1 x0) (fun b29 =>
  m_chk (zK S26 b29 = 6) (
  m_cal (f_X6_size b29 S26) (fun o30 => m_chk (zt o30.2 = zt S26 ∧ zu o30.2 = zu S26) (
  some (o30.1, o30.2)))))))))))))))))))))))))))))))))))))))))
theorem tt_X11_write_0 {Pw : Int32 → ZS → Prop}   {x0 : Nat} {S : ZS} : Tw Pw (d_X11_write_0 x0 S) (zt S) (zu S) (fun C T => g_X11_write_0 Pw x0 S C T) := by
  unfold d_X11_write_0 g_X11_write_0
  refine tw_chk (fun _ => ?_)
  refine tw_calv (fun b1 => ?_)
  refine tw_chk (fun _ => ?_)
  refine tw_calf (⟨rfl, rfl⟩ : zt S = zt S ∧ zu S = zu S) (fun o2 co2 => ?_)
  refine tw_chk (fun _ => ?_)
  refine tw_calv (fun b3 => ?_)
  refine tw_chk (fun _ => ?_)
  refine tw_calv (fun b4 => ?_)
  refine tw_chk (fun _ => ?_)
  refine tw_calv (fun b5 => ?_)
  refine tw_chk (fun _ => ?_)
  refine tw_gal (fun Pw9 => tw_at co2 tt_X3_putHead) (fun r7 S8 => ?_)
  refine tw_chk (fun _ => ?_)
  refine tw_calv (fun b11 => ?_)
  refine tw_chk (fun _ => ?_)
  refine tw_calv (fun b12 => ?_)
  refine tw_chk (fun _ => ?_)
  refine tw_calv (fun b13 => ?_)
  refine tw_chk (fun _ => ?_)
  refine tw_calf (⟨rfl, rfl⟩ : zt S8 = zt S8 ∧ zu S8 = zu S8) (fun o14 co14 => ?_)
  refine tw_chk (fun _ => ?_)
  refine tw_chk (fun _ => ?_)
  refine tw_calv (fun b15 => ?_)
  refine tw_chk (fun _ => ?_)
  refine tw_gal (fun Pw9 => tw_at co14 tt_X3_putLine) (fun r17 S18 => ?_)
  refine tw_chk (fun _ => ?_)
  refine tw_calv (fun b21 => ?_)
  refine tw_chk (fun _ => ?_)
  refine tw_calv (fun b22 => ?_)
  refine tw_chk (fun _ => ?_)
  refine tw_calv (fun b23 => ?_)
  refine tw_chk (fun _ => ?_)
  refine tw_gal (fun Pw9 => tw_at (⟨rfl, rfl⟩ : zt S18 = zt S18 ∧ zu S18 = zu S18) tt_X3_putEnd) (fun r25 S26 => ?_)
  refine tw_chk (fun _ => ?_)
  refine tw_calv (fun b29 => ?_)
  refine tw_chk (fun _ => ?_)
  refine tw_calf (⟨rfl, rfl⟩ : zt S26 = zt S26 ∧ zu S26 = zu S26) (fun o30 co30 => ?_)
  exact tw_ret co30
def d_X11_write (x0 : Nat) (S : ZS) : Option (Int32 × ZS) := d_X11_write_0 x0 S
theorem tt_X11_write {Pw : Int32 → ZS → Prop} {x0 : Nat} {S : ZS} : Tw Pw (d_X11_write x0 S) (zt S) (zu S) (fun C T => g_X11_write x0 S C T Pw) := tt_X11_write_0
