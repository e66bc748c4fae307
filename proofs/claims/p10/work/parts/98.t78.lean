/-- an empty tree -/
noncomputable def T00 : TRa := (0, fun _ => -1, fun _ => -1, fun _ => [], fun _ => [], fun _ => [])
theorem wt_00 : WT T00 := ⟨Nat.zero_le _, fun k k1 k2 => absurd (show k ≤ 0 from k2) (by omega), fun _ => ⟨Nat.zero_le _, Nat.zero_le _⟩, rfl, rfl⟩
section BEG
variable {S S' : ZS} {g g' : Nat} {ch : Int → Int} {N : Int} {o : Int32 × ZS}
theorem fx_23 : ∀ t ∈ fxL, ¬ (t.1 = 23 ∧ (t.2.1 = 2 ∨ t.2.1 = 3)) := by decide
/-- the reader's text or game changes -/
theorem cg_p {j v : Nat} (h : CG S) (hj : j = 2 ∨ j = 3) (hT : ZT S') (e : S' = zsP S j 23 (some v)) : CG S' := by
  obtain ⟨hT0, hZ, hX, h35, h99, hd⟩ := h
  have k23 : zK S 23 = 2 := hX.1 23 (by decide) (by decide)
  have P' : ∀ i a, ¬ (a = 23 ∧ i = j) → zP S' i a = zP S i a := fun i a hn => by
    rw [e]
    show va_up (zP S) j (va_up (zP S j) 23 (some v)) i a = zP S i a
    by_cases ei : i = j
    · rw [ei, va_up_self]
      exact va_up_ne _ _ (fun ea => hn ⟨ea, ei⟩)
    · rw [va_up_ne _ _ ei]
  have K' : zK S' = zK S := by rw [e]; rfl
  have B' : zB S' = zB S := by rw [e]; rfl
  have I' : zI S' = zI S := by rw [e]; rfl
  have N' : zN S' = zN S := by rw [e]; rfl
  have k2 : ∀ a, zK S a ≠ 2 → a ≠ 23 := fun a ha ea => ha (by rw [ea]; exact k23)
  have gm : ∀ g, GM S g → GM S' g := fun g hm => by
    refine ⟨fun i a ha => ?_, fun i a ha => ?_⟩
    · rw [B'] at ha
      obtain ⟨a1, a2, a3, a4⟩ := hm.1 i a ha
      rw [K', P' 6 a (fun z => by omega)]
      exact ⟨a1, a2, a3, a4⟩
    · rw [B'] at ha
      obtain ⟨a1, a2, a3, a4, a5, a6⟩ := hm.2 i a ha
      rw [K', P' 0 a (fun z => by omega), P' 1 a (fun z => by omega)]
      exact ⟨a1, a2, a3, a4, a5, a6⟩
  refine ⟨hT, tz_x hT0 hZ (fun a _ => by rw [K']) (fun a i ha _ => P' i a (fun z => k2 a (by omega) z.1)) (fun a _ => by rw [B']) (fun a _ => by rw [I']; exact ⟨rfl, rfl, rfl⟩) (fun a _ => by rw [I']), ⟨?_, ?_, ?_, ?_, ?_, ?_⟩, gm 35 h35, gm 99 h99, ?_⟩
  · rw [K']; exact hX.1
  · intro t ht
    rw [P' t.2.1 t.1 (fun z => fx_23 t ht ⟨z.1, by rw [z.2]; exact hj⟩)]
    exact hX.2.1 t ht
  · intro d hd
    rw [P' 0 _ (fun z => by omega)]; exact hX.2.2.1 d hd
  · intro d hd
    rw [P' 0 _ (fun z => by omega)]; exact hX.2.2.2.1 d hd
  · rw [B']; exact hX.2.2.2.2.1
  · rw [N']; exact hX.2.2.2.2.2
  · intro q q' hq
    rw [B']; exact hd q q' hq
/-- the reader begins -/
theorem p_begin (hC : CG S) (hg : GG g g') (p3 : zP S 3 23 = some g) (hch : rwC S 2 = ch) (hN : (zI S 1 2).toInt = N) (hn : 0 ≤ N ∧ N ≤ 2000) (hcb : ∀ i, 0 ≤ ch i ∧ ch i ≤ 127) (hf : f_X2_begin 23 2 S = some o) : CG (zsP S 2 23 (some 2)) ∧ HSt (zsP S 2 23 (some 2)) o.2 g g' ch N 0 st00 [] T00 := by
  have hb : (g = 35 ∧ g' = 99) ∨ (g = 99 ∧ g' = 35) := hg
  have hgr := gg_g hg
  have k23 : zK S 23 = 2 := fx_k hC.2.2.1 (by decide) (by decide)
  have k2 : zK S 2 = 6 := fx_k hC.2.2.1 (by decide) (by decide)
  obtain ⟨Tf, Af, -⟩ := ok_of (t_f_X2_begin (SZ := S) hC.1 (a7_0 S) k23 k2 (by decide)) hf
  have Zf : TZ o.2 := (rp_begin (y := o.1) (S' := o.2) (rp_0 S) hC.1 k23 k2 (by decide) Af hf).2.1 hC.2.1
  have hf : f_X2_begin_0 23 2 S = some o := hf
  unfold f_X2_begin_0 at hf
  obtain ⟨-, hf⟩ := m_chkE hf
  obtain ⟨S1, e_S1, hf⟩ := m_bndE hf
  have T1 : ZT S1 := e_S1.symm ▸ zt_P hC.1 k23 (by decide) (Or.inr ⟨k2, rfl⟩) ⟨Nat.zero_le _, by decide⟩
  have C1 : CG S1 := cg_p hC (Or.inl rfl) T1 e_S1
  have p31 : zP S1 3 23 = some g := by
    rw [e_S1]
    show va_up (zP S) 2 (va_up (zP S 2) 23 (some 2)) 3 23 = some g
    rw [va_up_ne _ _ (by decide)]
    exact p3
  have p21 : zP S1 2 23 = some 2 := by
    rw [e_S1]
    show va_up (zP S) 2 (va_up (zP S 2) 23 (some 2)) 2 23 = some 2
    rw [va_up_self, va_up_self]
  have c1 : rwC S1 2 = ch := by
    rw [← hch, e_S1]
    funext i
    unfold rwC
    have e0 : zP (zsP S 2 23 (some 2)) 0 2 = zP S 0 2 := by
      show va_up (zP S) 2 (va_up (zP S 2) 23 (some 2)) 0 2 = _
      rw [va_up_ne _ _ (by decide)]
    rw [e0]
    rfl
  have n1 : (zI S1 1 2).toInt = N := by rw [e_S1]; exact hN
  obtain ⟨⟨kg, p0, p1, p2, p4, p7⟩, ⟨kb, ka, k3, k4, k5, k6, k7⟩, pb, p6⟩ := fx_g C1.2.2.1 hgr
  rw [← e_S1]
  have k231 : zK S1 23 = 2 := by rw [e_S1]; exact k23
  have k21 : zK S1 2 = 6 := by rw [e_S1]; exact k2
  obtain ⟨-, hf⟩ := m_chkE hf
  replace hf := m_calY hf p31
  obtain ⟨-, hf⟩ := m_chkE hf
  obtain ⟨⟨r3, S3c⟩, h_r3, hf⟩ := m_calE hf
  dsimp only at hf
  have h3 : f_X1_wipe_0 g S1 = some (r3, S3c) := h_r3
  obtain ⟨-, hf⟩ := m_chkE hf
  obtain ⟨S4, e_S4, hf⟩ := m_bndE hf
  obtain ⟨-, hf⟩ := m_chkE hf
  obtain ⟨S5, e_S5, hf⟩ := m_bndE hf
  cases hf
  try dsimp only
  have key : ∃ S2 S4 Sa Sb y2 y4, f_X0_setUp (g + 1) S1 = some (y2, S2) ∧ f_X4_become (g + 3) (-1) (-1) S2 = some (y4, S4) ∧ Sa = zsI S4 3 g 0 ∧ Sb = zsI Sa 5 g 0 ∧ S3c = zsI Sb 6 g 0 := by
    unfold f_X1_wipe_0 at h3
    obtain ⟨-, h3⟩ := m_chkE h3
    replace h3 := m_calY h3 p0
    obtain ⟨-, h3⟩ := m_chkE h3
    obtain ⟨⟨y2, S2⟩, s2, h3⟩ := m_calE h3
    dsimp only at h3
    have q2 := (p_setUp kb pb ka s2).1
    dsimp only at q2
    obtain ⟨-, h3⟩ := m_chkE h3
    replace h3 := m_calY h3 (show zP S2 1 g = some (g + 3) by rw [q2.2.1]; exact p1)
    obtain ⟨-, h3⟩ := m_chkE h3
    obtain ⟨⟨y4, S4'⟩, s4, h3⟩ := m_calE h3
    dsimp only at h3
    obtain ⟨-, h3⟩ := m_chkE h3
    obtain ⟨Sa, ea, h3⟩ := m_bndE h3
    obtain ⟨-, h3⟩ := m_chkE h3
    obtain ⟨Sb, eb, h3⟩ := m_bndE h3
    obtain ⟨-, h3⟩ := m_chkE h3
    obtain ⟨Sc, ec, h3⟩ := m_bndE h3
    cases h3
    exact ⟨S2, S4', Sa, Sb, y2, y4, s2, s4, ea, eb, ec⟩
  obtain ⟨S2, Sd, Sa, Sb, y2, y4, s2, s4, ea, eb, ec⟩ := key
  obtain ⟨q2, B2⟩ := p_setUp kb pb ka s2
  dsimp only at q2 B2
  have T2 : ZT S2 := (ok_of (t_f_X0_setUp (SZ := S1) T1 (a7_0 S1) kb) s2).1
  have F2 := fr_b T1 ka q2
  have k32 : zK S2 (g + 3) = 4 := (fr_k F2 (by rw [k3]; decide)).trans k3
  have k42 : zK S2 (g + 4) = 6 := (fr_k F2 (by rw [k4]; decide)).trans k4
  have p62 : zP S2 6 (g + 3) = some (g + 4) := by rw [q2.2.1]; exact p6
  obtain ⟨Td, Fd, ⟨i0, i1, i2, i3⟩, nm, rw4⟩ := p_become T2 k32 p62 k42 s4
  dsimp only at Td Fd i0 i1 i2 i3 nm rw4
  have Fe : FR (fun a => a = g) Sd S3c := fr_t (fr_I ea) (fr_t (fr_I eb) (fr_I ec))
  have Fz : FR (fun a => a = 23) S3c S5 := fr_t (fr_I e_S4) (fr_I e_S5)
  have F : FR (fun a => a = 23 ∨ (g ≤ a ∧ a ≤ g + 4)) S1 S5 := fr_t (fr_m F2 (fun a _ e => by omega)) (fr_t (fr_m Fd (fun a _ e => by omega)) (fr_t (fr_m Fe (fun a _ e => by omega)) (fr_m Fz (fun a _ e => by omega))))
  have C5 : CG S5 := cg_w C1 Tf Zf F (by omega) (by omega) (by omega) (by omega)
  have I5 : ∀ j a, a ≠ 23 → zI S5 j a = zI S3c j a := fun j a ha => by rw [e_S5, zI_b ha, e_S4, zI_b ha]
  have Ig : ∀ j a, a ≠ g → zI S3c j a = zI Sd j a := fun j a ha => by rw [ec, zI_b ha, eb, zI_b ha, ea, zI_b ha]
  have J : ∀ j a, a ≠ 23 → a ≠ g → zI S5 j a = zI Sd j a := fun j a h1 h2 => (I5 j a h1).trans (Ig j a h2)
  have g3 : zI S5 3 g = 0 := by rw [I5 3 g (by omega), ec, zI_j (by decide), eb, zI_j (by decide), ea, zI_self]
  have g5 : zI S5 5 g = 0 := by rw [I5 5 g (by omega), ec, zI_j (by decide), eb, zI_self]
  have F' : FR (fun a => ¬ KPc S1 g' a) S1 S5 := fr_m F (fun a _ e => kp_fix C1 hg fr_0 C1.2.2.1 (by omega))
  have nk0 : nk S5 (g + 3) (g + 5) 0 = g + 3 := rfl
  have kbd : zK Sd (g + 1) = 0 := (fr_k Fd (by rw [B2.1.1]; decide)).trans B2.1.1
  have Fy : FR (fun a => a = 23 ∨ a = g) Sd S5 := fr_t (fr_m Fe (fun a _ e => Or.inr e)) (fr_m Fz (fun a _ e => Or.inl e))
  have Bd : BO Sd (g + 1) st00 := bo_fr B2 Fd (by omega) (by omega)
  have k4d : zK Sd (g + 4) = 6 := (fr_k Fd (by rw [k42]; decide)).trans k42
  refine ⟨C1, C5, ⟨hg, C1.2.2.1, F'⟩, ⟨?_, hn.1, ((F 23 (by rw [k231]; decide)).1.2.2.1 (by rw [k231]; rfl) 3).trans p31⟩, ⟨⟨?_, ⟨?_, ?_⟩, ?_, ?_⟩, wt_00, rfl⟩, ⟨bo_fr Bd Fy (by omega) (by omega), pgd_00, by decide, by decide⟩, ⟨by rw [g5]; rfl, Nat.zero_le _, fun i hi => absurd hi (Nat.not_lt_zero _)⟩, fun i i0 i1 => absurd (show i < 0 from i1) (by omega)⟩
  · have e2 := fr_e F (by rw [k21]; decide) (show ¬ (2 = 23 ∨ (g ≤ 2 ∧ 2 ≤ g + 4)) by omega)
    exact ⟨Tf, ⟨(fr_k F (by rw [k231]; decide)).trans k231, ((F 23 (by rw [k231]; decide)).1.2.2.1 (by rw [k231]; rfl) 2).trans p21, e2.1.trans k21⟩, ⟨by rw [eqc_rw e2 k21]; exact c1, by rw [e2.2.2.1]; exact n1, hn⟩, hcb, by rw [e_S5, zI_j (by decide), e_S4, zI_self]; rfl, by decide, by decide⟩
  · unfold cn
    rw [g3]; rfl
  · intro k k1 k2
    have k2 : k ≤ 0 := k2
    omega
  · show (zI S5 3 (g + 3)).toInt = -1
    rw [J 3 (g + 3) (by omega) (by omega), i3]
    rfl
  · intro q hq
    have q0 : q = 0 := Nat.le_zero.1 hq
    subst q0
    refine ⟨?_, List.nodup_nil, fun k => ⟨(fun hk => by cases hk), fun ⟨k1, k2, _⟩ => absurd (show k ≤ 0 from k2) (by omega)⟩⟩
    show (zI S5 2 (g + 3)).toInt = -1
    rw [J 2 (g + 3) (by omega) (by omega), i2]
    rfl
  · intro k hk
    have k0 : k = 0 := Nat.le_zero.1 hk
    subst k0
    refine ⟨⟨?_, ?_⟩, ⟨?_, ?_⟩, ?_⟩
    · show (zI S5 0 (g + 3)).toInt = -1
      rw [J 0 (g + 3) (by omega) (by omega), i0]; rfl
    · show (zI S5 1 (g + 3)).toInt = -1
      rw [J 1 (g + 3) (by omega) (by omega), i1]; rfl
    · show (zI S5 4 (g + 3)).toInt = _
      rw [J 4 (g + 3) (by omega) (by omega)]; exact nm.1
    · show zI S5 5 (g + 3) = _
      rw [J 5 (g + 3) (by omega) (by omega)]; exact nm.2
    · have hr : RWL S5 (g + 4) [] := eqc_rl (fr_e Fy (by rw [k4d]; decide) (by omega)) k4d rw4
      exact hr
end BEG
