section FY
variable {W V : List (Nat × Nat)} {B : List Nat} {S S1 S2 : ZS}
theorem frz_F {j a : Nat} {v : Option Nat} (h : FrZ W V B S S1) (hn : Fh S → 18 ≤ zK S a) (e : S2 = zsP S1 j a v) : FrZ W V B S S2 := fun hF => by
  obtain ⟨a1, a2, a3⟩ := h hF
  subst e
  refine ⟨a1, a2, fun b hb => ?_⟩
  obtain ⟨c1, c2, c3, c4, c5⟩ := a3 b hb
  have hne : b ≠ a := fun e1 => by have := hn hF; rw [e1] at hb; omega
  refine ⟨c1, c2, c3, fun i hi => ?_, c5⟩
  show va_up (zP S1) j (va_up (zP S1 j) a v) i b = zP S i b
  by_cases e1 : i = j
  · subst e1
    rw [va_up_self, va_up_ne _ _ hne]
    exact c4 i hi
  · rw [va_up_ne _ _ e1]
    exact c4 i hi
theorem fy_X10_init {S0 : ZS} {o : Int32 × ZS} {x0 : Nat} (h_S : FrZ [(6, 1)] [(6, 0)] [] S0 S) (hn : Fh S0 → 18 ≤ zK S0 x0) (hf : d_X10_init x0 S = some o) : FrZ [(6, 1)] [(6, 0)] [] S0 o.2 := by
  have hf : d_X10_init_0 x0 S = some o := hf
  unfold d_X10_init_0 at hf
  obtain ⟨q1, e1, hf⟩ := m_bndE hf
  obtain ⟨S2, e2, hf⟩ := m_bndE hf
  have h_S2 := frz_nO h_S e1 e2
  obtain ⟨o5, ho, hf⟩ := m_calE hf
  have h_o5 := frz_t h_S2 (fz_X6_init ho) (by decide) (by decide) (by decide)
  clear ho
  obtain ⟨-, hf⟩ := m_chkE hf
  obtain ⟨q3, hf⟩ := m_chkE hf
  obtain ⟨S6, e4, hf⟩ := m_bndE hf
  have h_S6 := frz_F h_o5 hn e4
  obtain ⟨q7, e5, hf⟩ := m_bndE hf
  obtain ⟨S8, e6, hf⟩ := m_bndE hf
  have h_S8 := frz_nO h_S6 e5 e6
  obtain ⟨o11, ho, hf⟩ := m_calE hf
  have h_o11 := frz_t h_S8 (fz_X6_init ho) (by decide) (by decide) (by decide)
  clear ho
  obtain ⟨-, hf⟩ := m_chkE hf
  obtain ⟨q7, hf⟩ := m_chkE hf
  obtain ⟨S12, e8, hf⟩ := m_bndE hf
  have h_S12 := frz_F h_o11 hn e8
  cases hf
  exact h_S12
theorem fy_X1_tagAt_22 {o : Nat × ZS} {t0 : Option Nat} (hf : d_X1_tagAt_22 t0 S = some o) : FrZ [(6, 1)] [(6, 0)] [] S o.2 := by
  have h_S : FrZ [(6, 1)] [(6, 0)] [] S S := frz_0
  have h38 : ∀ {t : Option Nat} {S1 : ZS}, d_X1_tagAt_38 t S1 = some o → o.2 = S1 := fun hf => by
    unfold d_X1_tagAt_38 at hf
    obtain ⟨b1, -, hf⟩ := m_calE hf
    cases hf
    rfl
  unfold d_X1_tagAt_22 at hf
  rcases m_optE hf with ⟨-, hf⟩ | ⟨b1, -, hf⟩
  · obtain ⟨q2, e1, hf⟩ := m_bndE hf
    obtain ⟨S3, e2, hf⟩ := m_bndE hf
    have h_S3 := frz_nO h_S e1 e2
    obtain ⟨⟨r7, S8⟩, ho, hf⟩ := m_cal2E hf
    have h_S8 := fy_X10_init h_S3 (fun hF => hF q2 (by rw [e1]; exact Nat.le_refl _)) ho
    rw [h38 hf]
    exact h_S8
  · rw [h38 hf]
    exact h_S
theorem fy_X1_tagAt {o : Nat × ZS} {x0 : Nat} {x1 : Int32} (hf : d_X1_tagAt x0 x1 S = some o) : FrZ [(6, 1)] [(6, 0)] [] S o.2 := by
  have hf : d_X1_tagAt_0 x0 x1 S = some o := hf
  have h21 : d_X1_tagAt_21 S = some o → FrZ [(6, 1)] [(6, 0)] [] S o.2 := fun hf => by
    unfold d_X1_tagAt_21 at hf
    exact fy_X1_tagAt_22 hf
  unfold d_X1_tagAt_0 at hf
  rcases m_ifE hf with ⟨-, hf⟩ | ⟨-, hf⟩
  · exact h21 hf
  · obtain ⟨q1, hf⟩ := m_chkE hf
    rcases m_ifE hf with ⟨-, hf⟩ | ⟨-, hf⟩
    · exact h21 hf
    · obtain ⟨q2, hf⟩ := m_chkE hf
      obtain ⟨b1, -, hf⟩ := m_calE hf
      obtain ⟨q3, hf⟩ := m_chkE hf
      obtain ⟨-, hf⟩ := m_chkE hf
      obtain ⟨v2, e4, hf⟩ := m_bndE hf
      exact fy_X1_tagAt_22 hf
end FY
theorem fy_X3_putHead_72 {o : Int32 × ZS} {x0 : Nat} {x1 : Nat} {x2 : Nat} {S : ZS}  (hf : d_X3_putHead_72 x0 x1 x2 S = some o) : FrZ [(0, 1), (0, 2), (0, 3), (0, 4), (0, 5), (0, 6), (6, 1)] [(6, 0)] [] S o.2 := by
  have h_S : FrZ [(0, 1), (0, 2), (0, 3), (0, 4), (0, 5), (0, 6), (6, 1)] [(6, 0)] [] S S := frz_0
  unfold d_X3_putHead_72 at hf
  obtain ⟨q1, hf⟩ := m_chkE hf
  obtain ⟨o1, ho, hf⟩ := m_calE hf
  have h_o1 := frz_t h_S (fz_X1_at ho) (by decide) (by decide) (by decide)
  clear ho
  obtain ⟨-, hf⟩ := m_chkE hf
  obtain ⟨⟨r3, S4⟩, ho, hf⟩ := m_cal2E hf
  have h_S4 := frz_t h_o1 (fz_X3_putRemark ho) (by decide) (by decide) (by decide)
  clear ho
  obtain ⟨q2, hf⟩ := m_chkE hf
  obtain ⟨b7, -, hf⟩ := m_calE hf
  obtain ⟨q3, hf⟩ := m_chkE hf
  obtain ⟨-, hf⟩ := m_chkE hf
  obtain ⟨b8, -, hf⟩ := m_calE hf
  obtain ⟨q4, hf⟩ := m_chkE hf
  obtain ⟨b9, -, hf⟩ := m_calE hf
  obtain ⟨q5, hf⟩ := m_chkE hf
  obtain ⟨o10, ho, hf⟩ := m_calE hf
  have h_o10 := frz_t h_S4 (fz_X0_copyFrom ho) (by decide) (by decide) (by decide)
  clear ho
  obtain ⟨-, hf⟩ := m_chkE hf
  cases hf
  exact h_o10
theorem fy_X3_putHead_2s {o : Int32 × ZS} {self2 : Nat → Nat → Nat → Int32 → ZS → Option (Int32 × ZS)} {x0 : Nat} {x1 : Nat} {x2 : Nat} {x3 : Int32} {S : ZS} (hself2 : ∀ (z0 : Nat) (z1 : Nat) (z2 : Nat) (z3 : Int32) (S : ZS) (o : Int32 × ZS), self2 z0 z1 z2 z3 S = some o → FrZ [(0, 1), (0, 2), (0, 3), (0, 4), (0, 5), (0, 6), (6, 1)] [(6, 0)] [] S o.2) (hf : d_X3_putHead_2s self2 x0 x1 x2 x3 S = some o) : FrZ [(0, 1), (0, 2), (0, 3), (0, 4), (0, 5), (0, 6), (6, 1)] [(6, 0)] [] S o.2 := by
  have h_S : FrZ [(0, 1), (0, 2), (0, 3), (0, 4), (0, 5), (0, 6), (6, 1)] [(6, 0)] [] S S := frz_0
  unfold d_X3_putHead_2s at hf
  obtain ⟨q1, hf⟩ := m_chkE hf
  rcases m_ifE hf with ⟨-, hf⟩ | ⟨-, hf⟩
  ·
    obtain ⟨q2, hf⟩ := m_chkE hf
    rcases m_ifE hf with ⟨-, hf⟩ | ⟨-, hf⟩
    ·
      exact frz_t h_S (fy_X3_putHead_72  hf) (fun _ h => h) (fun _ h => h) (fun _ h => h)
    ·
      obtain ⟨q3, hf⟩ := m_chkE hf
      obtain ⟨⟨r2, S3⟩, ho, hf⟩ := m_cal2E hf
      have h_S3 := frz_t h_S (fz_X6_put ho) (by decide) (by decide) (by decide)
      clear ho
      exact frz_t h_S3 (fy_X3_putHead_72  hf) (fun _ h => h) (fun _ h => h) (fun _ h => h)
  ·
    obtain ⟨q4, hf⟩ := m_chkE hf
    obtain ⟨⟨r7, S8⟩, ho, hf⟩ := m_cal2E hf
    have h_S8 := frz_t h_S (fy_X1_tagAt ho) (by decide) (by decide) (by decide)
    clear ho
    obtain ⟨q5, hf⟩ := m_chkE hf
    obtain ⟨⟨r12, S13⟩, ho, hf⟩ := m_cal2E hf
    have h_S13 := frz_t h_S8 (fz_X6_put ho) (by decide) (by decide) (by decide)
    clear ho
    obtain ⟨q6, hf⟩ := m_chkE hf
    obtain ⟨b16, -, hf⟩ := m_calE hf
    obtain ⟨q7, hf⟩ := m_chkE hf
    obtain ⟨⟨r18, S19⟩, ho, hf⟩ := m_cal2E hf
    have h_S19 := frz_t h_S13 (fz_X6_putAll ho) (by decide) (by decide) (by decide)
    clear ho
    obtain ⟨q8, hf⟩ := m_chkE hf
    obtain ⟨⟨r23, S24⟩, ho, hf⟩ := m_cal2E hf
    have h_S24 := frz_t h_S19 (fz_X6_putText ho) (by decide) (by decide) (by decide)
    clear ho
    obtain ⟨q9, hf⟩ := m_chkE hf
    obtain ⟨b27, -, hf⟩ := m_calE hf
    obtain ⟨⟨r29, S30⟩, ho, hf⟩ := m_cal2E hf
    have h_S30 := frz_t h_S24 (fz_X3_putQuoted ho) (by decide) (by decide) (by decide)
    clear ho
    obtain ⟨q10, hf⟩ := m_chkE hf
    obtain ⟨⟨r34, S35⟩, ho, hf⟩ := m_cal2E hf
    have h_S35 := frz_t h_S30 (fz_X6_putText ho) (by decide) (by decide) (by decide)
    clear ho
    obtain ⟨v38, e11, hf⟩ := m_bndE hf
    exact frz_t h_S35 (hself2 _ _ _ _ _ _ hf) (fun _ h => h) (fun _ h => h) (fun _ h => h)
theorem fy_X3_putHead_2   (n : Nat) : ∀ (y0 : Nat) (y1 : Nat) (y2 : Nat) (y3 : Int32) (S : ZS) (o : Int32 × ZS), d_X3_putHead_2  n y0 y1 y2 y3 S = some o → FrZ [(0, 1), (0, 2), (0, 3), (0, 4), (0, 5), (0, 6), (6, 1)] [(6, 0)] [] S o.2 := by
  induction n with
  | zero => intro y0 y1 y2 y3 S o hf; cases hf
  | succ n ih => intro y0 y1 y2 y3 S o hf; exact fy_X3_putHead_2s  ih hf
theorem fy_X3_putHead_0 {o : Int32 × ZS} {x0 : Nat} {x1 : Nat} {x2 : Nat} {S : ZS}  (hf : d_X3_putHead_0 x0 x1 x2 S = some o) : FrZ [(0, 1), (0, 2), (0, 3), (0, 4), (0, 5), (0, 6), (6, 1)] [(6, 0)] [] S o.2 := by
  have h_S : FrZ [(0, 1), (0, 2), (0, 3), (0, 4), (0, 5), (0, 6), (6, 1)] [(6, 0)] [] S S := frz_0
  unfold d_X3_putHead_0 at hf
  exact frz_t h_S (fy_X3_putHead_2  _ _ _ _ _ _ _ hf) (fun _ h => h) (fun _ h => h) (fun _ h => h)
theorem fy_X3_putHead {o : Int32 × ZS} {x0 : Nat} {x1 : Nat} {x2 : Nat} {S : ZS}  (hf : d_X3_putHead x0 x1 x2 S = some o) : FrZ [(0, 1), (0, 2), (0, 3), (0, 4), (0, 5), (0, 6), (6, 1)] [(6, 0)] [] S o.2 := by
  have h_S : FrZ [(0, 1), (0, 2), (0, 3), (0, 4), (0, 5), (0, 6), (6, 1)] [(6, 0)] [] S S := frz_0
  unfold d_X3_putHead at hf
  exact frz_t h_S (fy_X3_putHead_0  hf) (fun _ h => h) (fun _ h => h) (fun _ h => h)
theorem fy_X11_write_0 {o : Int32 × ZS} {x0 : Nat} {S : ZS}  (hf : d_X11_write_0 x0 S = some o) : FrZ [(0, 1), (0, 2), (0, 3), (0, 4), (0, 5), (0, 6), (6, 1)] [(6, 0)] [] S o.2 := by
  have h_S : FrZ [(0, 1), (0, 2), (0, 3), (0, 4), (0, 5), (0, 6), (6, 1)] [(6, 0)] [] S S := frz_0
  unfold d_X11_write_0 at hf
  obtain ⟨q1, hf⟩ := m_chkE hf
  obtain ⟨b1, -, hf⟩ := m_calE hf
  obtain ⟨q2, hf⟩ := m_chkE hf
  obtain ⟨o2, ho, hf⟩ := m_calE hf
  have h_o2 := frz_t h_S (fz_X6_keep ho) (by decide) (by decide) (by decide)
  clear ho
  obtain ⟨-, hf⟩ := m_chkE hf
  obtain ⟨q3, hf⟩ := m_chkE hf
  obtain ⟨b3, -, hf⟩ := m_calE hf
  obtain ⟨q4, hf⟩ := m_chkE hf
  obtain ⟨b4, -, hf⟩ := m_calE hf
  obtain ⟨q5, hf⟩ := m_chkE hf
  obtain ⟨b5, -, hf⟩ := m_calE hf
  obtain ⟨q6, hf⟩ := m_chkE hf
  obtain ⟨⟨r7, S8⟩, ho, hf⟩ := m_cal2E hf
  have h_S8 := frz_t h_o2 (fy_X3_putHead ho) (by decide) (by decide) (by decide)
  clear ho
  obtain ⟨q7, hf⟩ := m_chkE hf
  obtain ⟨b11, -, hf⟩ := m_calE hf
  obtain ⟨q8, hf⟩ := m_chkE hf
  obtain ⟨b12, -, hf⟩ := m_calE hf
  obtain ⟨q9, hf⟩ := m_chkE hf
  obtain ⟨b13, -, hf⟩ := m_calE hf
  obtain ⟨q10, hf⟩ := m_chkE hf
  obtain ⟨o14, ho, hf⟩ := m_calE hf
  have h_o14 := frz_t h_S8 (fz_X1_at ho) (by decide) (by decide) (by decide)
  clear ho
  obtain ⟨-, hf⟩ := m_chkE hf
  obtain ⟨q11, hf⟩ := m_chkE hf
  obtain ⟨q12, hf⟩ := m_chkE hf
  obtain ⟨b15, -, hf⟩ := m_calE hf
  obtain ⟨q13, hf⟩ := m_chkE hf
  obtain ⟨⟨r17, S18⟩, ho, hf⟩ := m_cal2E hf
  have h_S18 := frz_t h_o14 (fz_X3_putLine ho) (by decide) (by decide) (by decide)
  clear ho
  obtain ⟨q14, hf⟩ := m_chkE hf
  obtain ⟨b21, -, hf⟩ := m_calE hf
  obtain ⟨q15, hf⟩ := m_chkE hf
  obtain ⟨b22, -, hf⟩ := m_calE hf
  obtain ⟨q16, hf⟩ := m_chkE hf
  obtain ⟨b23, -, hf⟩ := m_calE hf
  obtain ⟨q17, hf⟩ := m_chkE hf
  obtain ⟨⟨r25, S26⟩, ho, hf⟩ := m_cal2E hf
  have h_S26 := frz_t h_S18 (fz_X3_putEnd ho) (by decide) (by decide) (by decide)
  clear ho
  obtain ⟨q18, hf⟩ := m_chkE hf
  obtain ⟨b29, -, hf⟩ := m_calE hf
  obtain ⟨q19, hf⟩ := m_chkE hf
  obtain ⟨o30, ho, hf⟩ := m_calE hf
  have h_o30 := frz_t h_S26 (fz_X6_size ho) (by decide) (by decide) (by decide)
  clear ho
  obtain ⟨-, hf⟩ := m_chkE hf
  cases hf
  exact h_o30
theorem fy_X11_write {o : Int32 × ZS} {x0 : Nat} {S : ZS}  (hf : d_X11_write x0 S = some o) : FrZ [(0, 1), (0, 2), (0, 3), (0, 4), (0, 5), (0, 6), (6, 1)] [(6, 0)] [] S o.2 := by
  have h_S : FrZ [(0, 1), (0, 2), (0, 3), (0, 4), (0, 5), (0, 6), (6, 1)] [(6, 0)] [] S S := frz_0
  unfold d_X11_write at hf
  exact frz_t h_S (fy_X11_write_0  hf) (fun _ h => h) (fun _ h => h) (fun _ h => h)
theorem fy_X11_tag_19 {o : (Nat × Int32) × ZS} {S : ZS}  (hf : d_X11_tag_19 S = some o) : FrZ [(6, 1)] [(6, 0)] [] S o.2 := by
  have h_S : FrZ [(6, 1)] [(6, 0)] [] S S := frz_0
  unfold d_X11_tag_19 at hf
  cases hf
  exact frz_Q h_S rfl
theorem fy_X11_tag_65 {o : (Nat × Int32) × ZS} {t0 : Int32} {S : ZS}  (hf : d_X11_tag_65 t0 S = some o) : FrZ [(6, 1)] [(6, 0)] [] S o.2 := by
  have h_S : FrZ [(6, 1)] [(6, 0)] [] S S := frz_0
  unfold d_X11_tag_65 at hf
  cases hf
  exact h_S
theorem fy_X11_tag_0 {o : (Nat × Int32) × ZS} {x0 : Nat} {x1 : Int32} {x2 : Int32} {x3 : Int32} {S : ZS}  (hf : d_X11_tag_0 x0 x1 x2 x3 S = some o) : FrZ [(6, 1)] [(6, 0)] [] S o.2 := by
  have h_S : FrZ [(6, 1)] [(6, 0)] [] S S := frz_0
  unfold d_X11_tag_0 at hf
  rcases m_ifE hf with ⟨-, hf⟩ | ⟨-, hf⟩
  ·
    exact frz_t h_S (fy_X11_tag_19  hf) (fun _ h => h) (fun _ h => h) (fun _ h => h)
  ·
    obtain ⟨q1, hf⟩ := m_chkE hf
    obtain ⟨b1, -, hf⟩ := m_calE hf
    obtain ⟨q2, hf⟩ := m_chkE hf
    rcases m_ifE hf with ⟨-, hf⟩ | ⟨-, hf⟩
    ·
      exact frz_t h_S (fy_X11_tag_19  hf) (fun _ h => h) (fun _ h => h) (fun _ h => h)
    ·
      rcases m_ifE hf with ⟨-, hf⟩ | ⟨-, hf⟩
      ·
        obtain ⟨q3, hf⟩ := m_chkE hf
        obtain ⟨b2, -, hf⟩ := m_calE hf
        obtain ⟨q4, hf⟩ := m_chkE hf
        obtain ⟨⟨r4, S5⟩, ho, hf⟩ := m_cal2E hf
        have h_S5 := frz_t h_S (fy_X1_tagAt ho) (by decide) (by decide) (by decide)
        clear ho
        rcases m_ifE hf with ⟨-, hf⟩ | ⟨-, hf⟩
        ·
          obtain ⟨q5, hf⟩ := m_chkE hf
          obtain ⟨b8, -, hf⟩ := m_calE hf
          obtain ⟨q6, hf⟩ := m_chkE hf
          obtain ⟨o9, ho, hf⟩ := m_calE hf
          have h_o9 := frz_t h_S5 (fz_X6_at ho) (by decide) (by decide) (by decide)
          clear ho
          obtain ⟨-, hf⟩ := m_chkE hf
          exact frz_t h_o9 (fy_X11_tag_65  hf) (fun _ h => h) (fun _ h => h) (fun _ h => h)
        ·
          obtain ⟨q7, hf⟩ := m_chkE hf
          obtain ⟨b10, -, hf⟩ := m_calE hf
          obtain ⟨q8, hf⟩ := m_chkE hf
          obtain ⟨o11, ho, hf⟩ := m_calE hf
          have h_o11 := frz_t h_S5 (fz_X6_at ho) (by decide) (by decide) (by decide)
          clear ho
          obtain ⟨-, hf⟩ := m_chkE hf
          exact frz_t h_o11 (fy_X11_tag_65  hf) (fun _ h => h) (fun _ h => h) (fun _ h => h)
      ·
        exact frz_t h_S (fy_X11_tag_19  hf) (fun _ h => h) (fun _ h => h) (fun _ h => h)
theorem fy_X11_tag {o : (Nat × Int32) × ZS} {x0 : Nat} {x1 : Int32} {x2 : Int32} {x3 : Int32} {S : ZS}  (hf : d_X11_tag x0 x1 x2 x3 S = some o) : FrZ [(6, 1)] [(6, 0)] [] S o.2 := by
  have h_S : FrZ [(6, 1)] [(6, 0)] [] S S := frz_0
  unfold d_X11_tag at hf
  exact frz_t h_S (fy_X11_tag_0  hf) (fun _ h => h) (fun _ h => h) (fun _ h => h)
