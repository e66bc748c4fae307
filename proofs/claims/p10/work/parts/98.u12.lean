/-- no sign of the text is 0 -/
noncomputable def NZ (I : Nat → Int32) (A : Nat → Nat → Int32) : Prop := ∀ i, 0 ≤ i → i < (I 1).toInt → txR I A i ≠ 0
/-- the full relation, and a text without 0 -/
noncomputable def FN (I : Nat → Int32) (A : Nat → Nat → Int32) (S : ZS) : Prop := FM I A S ∧ NZ I A
section FND
variable {S S' : ZS} {I I' : Nat → Int32} {A A' : Nat → Nat → Int32} {P : PO} {x1 x3 : Int32} {o2 : Int32 × MS}
theorem fn_c (hK : zK S' = zK S) (hI : zI S' = zI S) (hP : zP S' = zP S) (hN : zN S' = zN S) (hA : zA S' = zA S) (hB : zB S' = zB S) (h : FN I A S) : FN I A S' := ⟨fm_c hK hI hP hN hA hB h.1, h.2⟩
theorem nz_e (h : NZ I A) (h1 : I' 1 = I 1) (h2 : A' 2 = A 2) : NZ I' A' := fun i i0 i1 => by
  rw [tx_fr h1 h2]
  rw [h1] at i1
  exact h i i0 i1
theorem nz_0 (h : (I 1).toInt = 0) : NZ I A := fun i i0 i1 => by omega
theorem bys_z {x : Int64} {n : Int} (h : GBs x n) (hn : n ≤ 8) : ∀ k : Nat, (k : Int) ≤ n → ∀ c ∈ bys x k, c ≠ 0
  | 0, _ => fun c hc => by cases hc
  | k + 1, hk => fun c hc => by
    have hc : c ∈ bys x k ++ [(tyB x (Int32.ofInt (k : Int))).toInt] := hc
    rcases List.mem_append.1 hc with hc | hc
    · exact bys_z h hn k (by omega) c hc
    · rw [List.mem_singleton.1 hc]
      have e8 : ∀ k : Nat, k < 8 → (Int32.ofInt (k : Int)).toInt = (k : Int) := by decide
      have e := e8 k (by omega)
      have q := h (Int32.ofInt (k : Int)) (by omega) (by omega)
      unfold GBy at q
      omega
theorem nz_l {w : List Int} (h : TXl I A w) : NZ I A ↔ ∀ c ∈ w, c ≠ 0 := by
  obtain ⟨h1, h2⟩ := h
  constructor
  · intro hz c hc
    obtain ⟨i, hi, e⟩ := List.mem_iff_getElem.1 hc
    have := hz (i : Int) (by omega) (by omega)
    rw [h2, wA_in hi, e] at this
    exact this
  · intro hz i i0 i1
    obtain ⟨k, rfl⟩ : ∃ k : Nat, i = (k : Int) := ⟨i.toNat, by omega⟩
    rw [h2, wA_in (show k < w.length by omega)]
    exact hz _ (List.getElem_mem _)
theorem nz_type {x : Int64} (hC : CG S) (hs : SM I A S) (hz : NZ I A) (h2 : f_type x x3 I A = some o2) : NZ o2.2.1 o2.2.2 := by
  obtain ⟨w, hw, hl, hcw⟩ := tx_l hC hs.2
  have tl : TXl I A w := ⟨hl.symm, fun i => (hcw i).symm⟩
  have wb := hs.2.2.2
  have wl : w.length ≤ 2000 := by omega
  have hzw := (nz_l tl).1 hz
  rcases v_type tl wl h2 with ⟨⟨⟨n1, n2⟩, n3, n4⟩, b2, b3⟩ | ⟨b1, b2, b3⟩
  · refine (nz_l b3).2 (fun c hc => ?_)
    rcases List.mem_append.1 hc with hc | hc
    · exact hzw c hc
    · exact bys_z n4 n2 _ (by omega) c hc
  · exact (nz_l b3).2 hzw
theorem nz_cut (hz : NZ I A) (h2 : f_cut x1 I A = some o2) : NZ o2.2.1 o2.2.2 := by
  have e2 : o2.2.2 2 = A 2 := (fw_cut h2).2 2 (by decide)
  have key : (o2.2.1 1).toInt ≤ (I 1).toInt := by
    rcases v_cut (N := (I 1).toInt) rfl rfl h2 with ⟨⟨b0, b1⟩, -, -, b4⟩ | ⟨-, -, -, b4⟩
    · omega
    · omega
  intro i i0 i1
  have q := hz i i0 (by omega)
  unfold txR at q ⊢
  rw [if_pos ⟨i0, by omega⟩] at q
  rw [if_pos ⟨i0, i1⟩, e2]
  exact q
theorem nz_say (hN : 0 ≤ (I 1).toInt ∧ (I 1).toInt ≤ 2000) (hz : NZ I A) (h2 : f_say I A = some o2) : NZ o2.2.1 o2.2.2 := by
  rcases v_say (N := (I 1).toInt) rfl rfl hN h2 with ⟨-, -, -, b4⟩ | ⟨-, -, -, b4⟩
  · exact nz_0 b4
  · exact nz_e hz b4 ((fw_say h2).2 2 (by decide))
theorem nz_read (hR : RIt I A) (hs : SM I A S) (hz : NZ I A) (h2 : f_read I A = some o2) : NZ o2.2.1 o2.2.2 := by
  have wb := hs.2.2.2
  have b5 : 0 ≤ (I 5).toInt ∧ (I 5).toInt ≤ 1 := hR.1 5
  rcases v_read (g := 1 - (I 5).toInt.toNat) hR.1 hR.2.1 rfl rfl wb.1 wb.2 (by omega) (by omega) h2 with ⟨L', st', T', r', b1, b2, b3, -⟩ | ⟨b1, b2, b3, b4, -⟩
  · exact nz_0 b3
  · exact nz_e hz b3 b4
/-- the class's own reader of signs and a board -/
theorem srr_9 {bb : Nat} (hC : CG S) (hb : BO S bb P) (hG : PGd P) (hn : 0 ≤ onb P ∧ onb P ≤ 99999) (h1 : bb ≠ 11 ∧ bb ≠ 13) : SRr S 9 10 15 16 11 13 bb (om P) (osd P) (ort P) (ops P) (okw P) (okb P) := by
  have hx := hC.2.2.1
  have k := fun a h1 h2 => fx_k (a := a) hx h1 h2
  obtain ⟨⟨k0, p0, k1⟩, hm, h3, h4, h5, i1, i2, h6⟩ := hb
  have hs := hG.1
  have nb : ∀ a, (a = 16 ∨ a = 12 ∨ a = 14) → zK S a = 14 := fun a ha => by
    rcases ha with e | e | e <;> subst e
    · exact k 16 (by decide) (by decide)
    · exact k 12 (by decide) (by decide)
    · exact k 14 (by decide) (by decide)
  have n16 : (16 : Nat) ≠ bb + 1 := fun e => by
    have : bb = 15 := by omega
    rw [this, show zK S 15 = 6 from k 15 (by decide) (by decide)] at k0
    omega
  refine ⟨⟨⟨hC.1, ⟨k 10 (by decide) (by decide), fx_p hx (by decide)⟩, ⟨k 11 (by decide) (by decide), fx_p hx (by decide)⟩, ⟨k0, p0⟩, h1.1, ?_, hm, h3, h4, h5, i1, i2⟩, ⟨fx_p hx (by decide), k 13 (by decide) (by decide), fx_p hx (by decide)⟩, ⟨fun e => h1.2 e.symm, by decide⟩, by omega⟩, ⟨k 9 (by decide) (by decide), fx_p hx (by decide), fx_p hx (by decide), fx_p hx (by decide)⟩, ⟨k 15 (by decide) (by decide), by decide⟩, ⟨k 16 (by decide) (by decide), hx.2.2.2.2.2.2.2.2⟩, ⟨nb 12 (by omega), nb 14 (by omega), k1⟩, by decide, by decide, n16⟩
  unfold BN
  omega
theorem an_find {o : Int32 × ZS} (hC : CG S) (hR : RIt I A) (h : FM I A S) (hz : NZ I A) (h2 : f_find I A = some o2) (ho : d_X11_find 1 S = some o) : o.1 = o2.1 := by
  obtain ⟨hm, g, L, st, T, r, c, w⟩ := h
  obtain ⟨-, -, -, bo, qs⟩ := id w
  obtain ⟨pg, pn1, pn2⟩ := fw_pg w
  obtain ⟨tx, tN, tb, tc⟩ := id hm.2
  have hx := hC.2.2.1
  obtain ⟨-, RS⟩ := vq_find hR qs pg tb h2
  have hf : d_X11_find_0 1 S = some o := ho
  have k2 : zK S 2 = 6 := fx_k hx (by decide) (by decide)
  unfold d_X11_find_0 at hf
  obtain ⟨-, hf⟩ := m_chkE hf
  replace hf := m_calY hf (show zP S 3 1 = some 9 from fx_p hx (by decide))
  obtain ⟨-, hf⟩ := m_chkE hf
  replace hf := m_calY hf (show zP S 9 1 = some 107 from fx_p hx (by decide))
  obtain ⟨-, hf⟩ := m_chkE hf
  replace hf := m_calY hf (show zP S 0 1 = some 2 from fx_p hx (by decide))
  obtain ⟨-, hf⟩ := m_chkE hf
  replace hf := m_calY hf (show zP S 0 1 = some 2 from fx_p hx (by decide))
  obtain ⟨-, hf⟩ := m_chkE hf
  obtain ⟨⟨y5, S5⟩, h_5, hf⟩ := m_calE hf
  have q5 := pc_X6_size h_5
  have e5 : S5 = S := ro_X6_size h_5
  obtain ⟨-, hf⟩ := m_chkE hf
  dsimp only at q5 hf
  rw [e5] at hf
  obtain ⟨-, hf⟩ := m_chkE hf
  obtain ⟨⟨r7, S8⟩, h_7, hf⟩ := m_cal2E hf
  have eo := (Option.some.inj hf).symm
  have y5N : y5.toInt = (I 1).toInt := by rw [q5]; exact tN
  have z0 : (0 : Int32).toInt = 0 := rfl
  obtain ⟨-, -, RC⟩ := p_matched (ko := oko (posT st T c)) (srr_9 hC bo pg ⟨by omega, by omega⟩ (by decide)) k2 (by decide) tx tc (by decide) (by omega) rfl pg.2.1 pg.2.2.2.2.2.2.1 pg.1 h_7
  dsimp only at RC
  rw [y5N, z0] at RC
  have e := sgV_c pg (fun i i0 i1 => hz i i0 i1) RC
  have e2 := sgV_r RS
  rw [eo]
  exact Int32.toInt_inj.1 (e.1.trans e2.symm)
end FND
