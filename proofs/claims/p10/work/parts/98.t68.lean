section MON
variable {ch : Int → Int} {N p q : Int}
theorem bl_ex (hz : ∀ i, N ≤ i → ch i = 0) : ∀ (k : Nat) (p : Int), N ≤ p + (k : Int) → ∃ b, BL ch p b
  | 0, p, h => ⟨p, bl_0 (by rw [hz p (by omega)]; decide) (by rw [hz p (by omega)]; decide)⟩
  | k + 1, p, h => by
    by_cases c : ch p = 32 ∨ ch p = 10
    · obtain ⟨b, hb⟩ := bl_ex hz k (p + 1) (by omega)
      exact ⟨b, bl_s c hb⟩
    · exact ⟨p, bl_0 (fun e => c (Or.inl e)) (fun e => c (Or.inr e))⟩
theorem blk_b (hz : ∀ i, N ≤ i → ch i = 0) : BL ch p (blk ch p) ∧ p ≤ blk ch p := by
  obtain ⟨b, hb⟩ := bl_ex hz (N - p).toNat p (by omega)
  rw [blk_e hb]
  exact ⟨hb, hb.1⟩
theorem blk_i (hz : ∀ i, N ≤ i → ch i = 0) : blk ch (blk ch p) = blk ch p := by
  obtain ⟨h, -⟩ := blk_b (p := p) hz
  exact blk_e (bl_0 h.2.2.1 h.2.2.2)
theorem pt_ex (hz : ∀ i, N ≤ i → ch i = 0) : ∀ (k : Nat) (p : Int), N ≤ p + (k : Int) → ∃ b, PT ch p b
  | 0, p, h => ⟨p, Int.le_refl _, fun j j0 j1 => by omega, by rw [hz p (by omega)]; decide⟩
  | k + 1, p, h => by
    by_cases c : ch p = 46
    · obtain ⟨b, b1, b2, b3⟩ := pt_ex hz k (p + 1) (by omega)
      refine ⟨b, by omega, fun j j0 j1 => ?_, b3⟩
      by_cases e : j = p
      · rw [e]; exact c
      · exact b2 j (by omega) j1
    · exact ⟨p, Int.le_refl _, fun j j0 j1 => by omega, c⟩
theorem ptk_b (hz : ∀ i, N ≤ i → ch i = 0) : p ≤ ptk ch p := by
  obtain ⟨b, hb⟩ := pt_ex hz (N - p).toNat p (by omega)
  rw [ptk_e hb]
  exact hb.1
theorem sg_ex (hz : ∀ i, N ≤ i → ch i = 0) : ∀ (k : Nat) (p : Int), N ≤ p + (k : Int) → ∃ b, SGr ch p b
  | 0, p, h => ⟨p, Int.le_refl _, fun j j0 j1 => by omega, by rw [hz p (by omega)]; unfold isSg isL isD; omega⟩
  | k + 1, p, h => by
    by_cases c : isSg (ch p)
    · obtain ⟨b, b1, b2, b3⟩ := sg_ex hz k (p + 1) (by omega)
      refine ⟨b, by omega, fun j j0 j1 => ?_, b3⟩
      by_cases e : j = p
      · rw [e]; exact c
      · exact b2 j (by omega) j1
    · exact ⟨p, Int.le_refl _, fun j j0 j1 => by omega, c⟩
theorem sgk_b (hz : ∀ i, N ≤ i → ch i = 0) : SGr ch p (sgk ch p) := by
  obtain ⟨b, hb⟩ := sg_ex hz (N - p).toNat p (by omega)
  rw [sgk_e hb]
  exact hb
theorem sgk_g (hz : ∀ i, N ≤ i → ch i = 0) (h : isL (ch p)) : p < sgk ch p := by
  have g := sgk_b (p := p) hz
  have := g.1
  by_cases e : p = sgk ch p
  · rw [← e] at g; exact absurd (Or.inl h) g.2.2
  · omega
theorem nuP_b {due : Int} (hz : ∀ i, N ≤ i → ch i = 0) (h : nuP ch due p = some q) : p ≤ q := by
  unfold nuP at h
  split at h
  · split at h
    · cases h
      have h1 := (blk_b (p := ptk ch (dgs ch 4 p 0).1) hz).2
      have h2 := ptk_b (p := (dgs ch 4 p 0).1) hz
      have h3 := (dgs_b (ch := ch) 4 p 0).1
      omega
    · cases h
  · cases h; omega
theorem rmkP_b (hz : ∀ i, N ≤ i → ch i = 0) : ∀ (k : Nat) (p : Int) (r : List Int) (e : Int) (w : List Int), rmkP ch N k p r = some (e, w) → p ≤ e
  | 0, _, _, _, _, h => by cases h
  | k + 1, p, r, e, w, h => by
    by_cases c : ch p = 123 ∨ ch p = 59
    · by_cases g : ∃ q, RM1 ch N p q
      · obtain ⟨q, g⟩ := g
        have hq : p + 1 ≤ q := by rcases g with g | g <;> omega
        by_cases l : ((jnR r ch (p + 1) (q - (p + 1)).toNat).length : Int) ≤ 200
        · rw [rkP_s g l] at h
          have h1 := rmkP_b hz k _ _ e w h
          have h2 := (blk_b (p := if ch p = 123 then q + 1 else q) hz).2
          have h3 : q ≤ (if ch p = 123 then q + 1 else q) := by split <;> omega
          omega
        · rw [rkP_l g (by omega)] at h; cases h
      · rw [rkP_n c (fun q hq => g ⟨q, hq⟩)] at h; cases h
    · rw [rkP_0 c] at h
      cases h
      omega
theorem mdP_b (hz : ∀ i, N ≤ i → ch i = 0) : ∀ (k : Nat) (p : Int) (K : List Int) (e : Int) (w : List Int), mdP ch k p K = some (e, w) → p ≤ e
  | 0, _, _, _, _, h => by cases h
  | k + 1, p, K, e, w, h => by
    by_cases c : ch p = 36
    · by_cases g : bdM ch p K
      · rw [md_n c g] at h; cases h
      · rw [md_s c g] at h
        have h1 := mdP_b hz k _ _ e w h
        have h2 := (blk_b (p := (dgs ch 3 (p + 1) 0).1) hz).2
        have h3 := (dgs_b (ch := ch) 3 (p + 1) 0).1
        omega
    · rw [md_0 c] at h
      cases h
      omega
theorem mkP_b (hz : ∀ i, N ≤ i → ch i = 0) {e : Int} {K : List Int} (h : mkP ch p = some (e, K)) : p ≤ e := by
  unfold mkP at h
  have h1 := (blk_b (p := p) hz).2
  split at h
  · have := mdP_b hz _ _ _ e K h
    omega
  · have h2 := mdP_b hz _ _ _ e K h
    have h3 := (blk_b (p := blk ch p + (if shM (ch (blk ch p)) (ch (blk ch p + 1)) ≤ 2 then 1 else 2)) hz).2
    have h4 : blk ch p ≤ blk ch p + (if shM (ch (blk ch p)) (ch (blk ch p + 1)) ≤ 2 then 1 else 2) := by split <;> omega
    omega
end MON
/-- the reference while it reads moves into game g -/
noncomputable def RSt (I0 I : Nat → Int32) (A0 A : Nat → Nat → Int32) (g : Nat) (ch : Int → Int) (N p : Int) (st : PO) (T : TRa) : Prop := RV I A ch N p ∧ p ≤ N ∧ g ≤ 1 ∧ TRr A g T ∧ SPp A g st ∧ (WT T ∧ LTr st T) ∧ (RDf A0 A g ∧ (∀ j, 16 ≤ j → j ≤ 23 → A j = A0 j) ∧ ∀ j, j ∉ [25, 26, 27, 28, 29, 33, 36, 37] → I j = I0 j)
/-- a refusal leaves this -/
noncomputable def RSn (I0 I : Nat → Int32) (A0 A : Nat → Nat → Int32) (g : Nat) : Prop := RDf A0 A g ∧ (∀ j, 16 ≤ j → j ≤ 23 → A j = A0 j) ∧ ∀ j, j ∉ [25, 26, 27, 28, 29, 33, 36, 37] → I j = I0 j
section RSL
variable {I I0 I1 : Nat → Int32} {A A0 A1 : Nat → Nat → Int32} {g la k : Nat} {ch : Int → Int} {N p q : Int} {st : PO} {T T' : TRa} {o : Int32 × MS} {x1 x2 x3 x4 : Int32}
theorem rs_n (h : RSt I0 I A0 A g ch N p st T) : RSn I0 I A0 A g := h.2.2.2.2.2.2
/-- a step that changes no table of any game -/
theorem rs_hi (h : RSt I0 I A0 A g ch N p st T) (hR : RV I1 A1 ch N q) (hq : q ≤ N) (hA : ∀ j, j ≤ 23 → A1 j = A j) (hI : ∀ j, j ∉ [25, 26, 27, 28, 29, 33, 36, 37] → I1 j = I j) : RSt I0 I1 A0 A1 g ch N q st T := by
  obtain ⟨-, -, hg, tr, sp, ⟨hw, hl⟩, rd, r2, r3⟩ := h
  refine ⟨hR, hq, hg, trr_e hg hw.1 tr (by rw [hA 7 (by decide)]) (fun j hj => hA j (by omega)), ?_, ⟨hw, hl⟩, rdf_t rd (rdf_hi hA), fun j h1 h2 => (hA j (by omega)).trans (r2 j h1 h2), fun j hj => (hI j hj).trans (r3 j hj)⟩
  unfold SPp SPo at sp ⊢
  rw [hA 16 (by decide), hA 17 (by decide)]
  exact sp
theorem rn_hi (h : RSn I0 I A0 A g) (hA : ∀ j, j ≤ 23 → A1 j = A j) (hI : ∀ j, j ∉ [25, 26, 27, 28, 29, 33, 36, 37] → I1 j = I j) : RSn I0 I1 A0 A1 g := ⟨rdf_t h.1 (rdf_hi hA), fun j h1 h2 => (hA j (by omega)).trans (h.2.1 j h1 h2), fun j hj => (hI j hj).trans (h.2.2 j hj)⟩
/-- a step in the tables of game g -/
theorem rs_g (h : RSt I0 I A0 A g ch N p st T) (hR : RV I1 A1 ch N q) (hq : q ≤ N) (hD : RDf A A1 g) (hA : ∀ j, 16 ≤ j → j ≤ 23 → A1 j = A j) (hI : ∀ j, j ∉ [25, 26, 27, 28, 29, 33, 36, 37] → I1 j = I j) (tr : TRr A1 g T') (hw : WT T') (hl : LTr st T') : RSt I0 I1 A0 A1 g ch N q st T' := by
  obtain ⟨-, -, hg, -, sp, -, rd, r2, r3⟩ := h
  refine ⟨hR, hq, hg, tr, ?_, ⟨hw, hl⟩, rdf_t rd hD, fun j h1 h2 => (hA j h1 h2).trans (r2 j h1 h2), fun j hj => (hI j hj).trans (r3 j hj)⟩
  unfold SPp SPo at sp ⊢
  rw [hA 16 (by decide) (by decide), hA 17 (by decide) (by decide)]
  exact sp
theorem rn_g (h : RSn I0 I A0 A g) (hD : RDf A A1 g) (hA : ∀ j, 16 ≤ j → j ≤ 23 → A1 j = A j) (hI : ∀ j, j ∉ [25, 26, 27, 28, 29, 33, 36, 37] → I1 j = I j) : RSn I0 I1 A0 A1 g := ⟨rdf_t h.1 hD, fun j h1 h2 => (hA j h1 h2).trans (h.2.1 j h1 h2), fun j hj => (hI j hj).trans (h.2.2 j hj)⟩
theorem n37 {j : Nat} (h : j ∉ [25, 26, 27, 28, 29, 33, 36, 37]) : j ≠ 37 := fun e => h (by rw [e]; decide)
/-- the remarks of node k -/
theorem rs_rk (h : RSt I0 I A0 A g ch N p st T) (h1 : x1.toInt = (g : Int)) (h2 : x2.toInt = (k : Int)) (hk : k ≤ tn T) (hf : f_readRemarks x1 x2 I A = some o) : (∃ e w, rmkP ch N 2001 (blk ch p) (tR T k) = some (e, w) ∧ o.1.toInt = 0 ∧ RSt I0 o.2.1 A0 o.2.2 g ch N e st (rkT T k w)) ∨ (rmkP ch N 2001 (blk ch p) (tR T k) = none ∧ 0 < o.1.toInt ∧ RSn I0 o.2.1 A0 o.2.2 g) := by
  obtain ⟨rv, hp, hg, tr, sp, ⟨hw, hl⟩, -⟩ := id h
  have h300 := hw.1
  have hr := (hw.2.2.1 k).1
  rcases v_readRemarks (k := 301 * g + k) h1 h2 (by omega) (by omega) (by omega) rv hp (tr.2.2 k hk).2.2 (by omega) hf with ⟨e, w, a1, a2, a3, a4, a5, a6, a7⟩ | ⟨a1, a2, a3⟩
  · exact Or.inl ⟨e, w, a1, a2, rs_g h a5 a4 (rdf_rm a6 (by omega)) (fun j j1 j2 => a6.2.1 j (by omega) (by omega)) (fun j hj => a6.1 j (n37 hj)) (trr_rk tr hw a6 a7) (wt_rk hw (by omega)) hl⟩
  · exact Or.inr ⟨a1, a2, rn_g (rs_n h) (rdf_rm a3 (by omega)) (fun j j1 j2 => a3.2.1 j (by omega) (by omega)) (fun j hj => a3.1 j (n37 hj))⟩
/-- the marks of node k -/
theorem rs_mm (h : RSt I0 I A0 A g ch N p st T) (h1 : x1.toInt = (g : Int)) (h2 : x2.toInt = (k : Int)) (hk : k ≤ tn T) (hK : tK T k = []) (hf : f_readMarks x1 x2 I A = some o) : (∃ e K, mkP ch p = some (e, K) ∧ o.1.toInt = 0 ∧ RSt I0 o.2.1 A0 o.2.2 g ch N e st (mkT T k K)) ∨ (mkP ch p = none ∧ 0 < o.1.toInt ∧ RSn I0 o.2.1 A0 o.2.2 g) := by
  obtain ⟨rv, hp, hg, tr, sp, ⟨hw, hl⟩, -⟩ := id h
  have h300 := hw.1
  rcases v_readMarks (k := 301 * g + k) h1 h2 (by omega) (by omega) (by omega) rv hp (by rw [← hK]; exact (tr.2.2 k hk).2.1) hf with ⟨e, w, a1, a2, a3, a4, a5, a6, a7⟩ | ⟨a1, a2, a3⟩
  · exact Or.inl ⟨e, w, a1, a2, rs_g h a5 a4 (rdf_rk a6 (by omega)) (fun j j1 j2 => a6.2.1 j (by omega) (by omega)) (fun j hj => a6.1 j (n37 hj)) (trr_mk tr hw a6 a7) (wt_mk hw (by omega)) hl⟩
  · exact Or.inr ⟨a1, a2, rn_g (rs_n h) (rdf_rk a3 (by omega)) (fun j j1 j2 => a3.2.1 j (by omega) (by omega)) (fun j hj => a3.1 j (n37 hj))⟩
/-- the reference goes to node k -/
theorem rs_pl (h : RSt I0 I A0 A g ch N p st T) (h1 : x1.toInt = (g : Int)) (h2 : x2.toInt = (k : Int)) (hk : k ≤ tn T) (hf : f_place x1 x2 I A = some o) : RSt I0 o.2.1 A0 o.2.2 g ch N p st T ∧ RPp o.2.1 o.2.2 (posT st T k) ∧ MVs o.2.1 o.2.2 (posT st T k) := by
  obtain ⟨rv, hp, hg, tr, sp, ⟨hw, hl⟩, -⟩ := id h
  obtain ⟨⟨hI, hA⟩, ⟨hc, hN, hn⟩, hcb, h37, hp0⟩ := id rv
  obtain ⟨a1, a2, a3⟩ := v_place hg h1 hw hl hI hA tr sp h2 hk hf
  have i1 := a3.1 1 (by decide)
  refine ⟨rs_hi h ⟨a1.1, ⟨by rw [tx_fr i1 (a3.2 2 (by decide))]; exact hc, by rw [i1]; exact hN, hn⟩, hcb, by rw [a3.1 37 (by decide)]; exact h37, hp0⟩ hp (fun j hj => a3.2 j (by simp; omega)) (fun j hj => a3.1 j (by simp at hj ⊢; omega)), a1, a2⟩
end RSL
