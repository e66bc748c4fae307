section
section MON
variable {ch : Int → Int} {N p q : Int}
theorem bl_ex (hz : ∀ i, N ≤ i → ch i = 0) : ∀ (k : Nat) (p : Int), N ≤ p + (k : Int) → ∃ b, BL ch p b
  | 0, p, h => ⟨p, bl_0 (by rw [hz p (by omega)]; decide) (by rw [hz p (by omega)]; decide)⟩
  | k + 1, p, h => by
    by_cases c : ch p = 32 ∨ ch p = 10
    · obtain ⟨b, hb⟩ := bl_ex hz k (p + 1) (by omega)
      exact ⟨b, bl_s c hb⟩
    · exact ⟨p, bl_0 (fun e => c (Or.inl e)) (fun e => c (Or.inr e))⟩
theorem blk_b (hz : ∀ i, N ≤ i → ch i = 0) : BL ch p (blk ch p) ∧ p ≤ blk ch p := by
  obtain ⟨b, hb⟩ := bl_ex hz (N - p).toNat p (by omega)
  rw [blk_e hb]
  exact ⟨hb, hb.1⟩
theorem blk_i (hz : ∀ i, N ≤ i → ch i = 0) : blk ch (blk ch p) = blk ch p := by
  obtain ⟨h, -⟩ := blk_b (p := p) hz
  exact blk_e (bl_0 h.2.2.1 h.2.2.2)
theorem pt_ex (hz : ∀ i, N ≤ i → ch i = 0) : ∀ (k : Nat) (p : Int), N ≤ p + (k : Int) → ∃ b, PT ch p b
  | 0, p, h => ⟨p, Int.le_refl _, fun j j0 j1 => by omega, by rw [hz p (by omega)]; decide⟩
  | k + 1, p, h => by
    by_cases c : ch p = 46
    · obtain ⟨b, b1, b2, b3⟩ := pt_ex hz k (p + 1) (by omega)
      refine ⟨b, by omega, fun j j0 j1 => ?_, b3⟩
      by_cases e : j = p
      · rw [e]; exact c
      · exact b2 j (by omega) j1
    · exact ⟨p, Int.le_refl _, fun j j0 j1 => by omega, c⟩
theorem ptk_b (hz : ∀ i, N ≤ i → ch i = 0) : p ≤ ptk ch p := by
  obtain ⟨b, hb⟩ := pt_ex hz (N - p).toNat p (by omega)
  rw [ptk_e hb]
  exact hb.1
theorem sg_ex (hz : ∀ i, N ≤ i → ch i = 0) : ∀ (k : Nat) (p : Int), N ≤ p + (k : Int) → ∃ b, SGr ch p b
  | 0, p, h => ⟨p, Int.le_refl _, fun j j0 j1 => by omega, by rw [hz p (by omega)]; unfold isSg isL isD; omega⟩
  | k + 1, p, h => by
    by_cases c : isSg (ch p)
    · obtain ⟨b, b1, b2, b3⟩ := sg_ex hz k (p + 1) (by omega)
      refine ⟨b, by omega, fun j j0 j1 => ?_, b3⟩
      by_cases e : j = p
      · rw [e]; exact c
      · exact b2 j (by omega) j1
    · exact ⟨p, Int.le_refl _, fun j j0 j1 => by omega, c⟩
theorem sgk_b (hz : ∀ i, N ≤ i → ch i = 0) : SGr ch p (sgk ch p) := by
  obtain ⟨b, hb⟩ := sg_ex hz (N - p).toNat p (by omega)
  rw [sgk_e hb]
  exact hb
theorem sgk_g (hz : ∀ i, N ≤ i → ch i = 0) (h : isL (ch p)) : p < sgk ch p := by
  have g := sgk_b (p := p) hz
  have := g.1
  by_cases e : p = sgk ch p
  · rw [← e] at g; exact absurd (Or.inl h) g.2.2
  · omega
theorem nuP_b {due : Int} (hz : ∀ i, N ≤ i → ch i = 0) (h : nuP ch due p = some q) : p ≤ q := by
  unfold nuP at h
  split at h
  · split at h
    · cases h
      have h1 := (blk_b (p := ptk ch (dgs ch 4 p 0).1) hz).2
      have h2 := ptk_b (p := (dgs ch 4 p 0).1) hz
      have h3 := (dgs_b (ch := ch) 4 p 0).1
      omega
    · cases h
  · cases h; omega
theorem rmkP_b (hz : ∀ i, N ≤ i → ch i = 0) : ∀ (k : Nat) (p : Int) (r : List Int) (e : Int) (w : List Int), rmkP ch N k p r = some (e, w) → p ≤ e
  | 0, _, _, _, _, h => by cases h
  | k + 1, p, r, e, w, h => by
    by_cases c : ch p = 123 ∨ ch p = 59
    · by_cases g : ∃ q, RM1 ch N p q
      · obtain ⟨q, g⟩ := g
        have hq : p + 1 ≤ q := by rcases g with g | g <;> omega
        by_cases l : ((jnR r ch (p + 1) (q - (p + 1)).toNat).length : Int) ≤ 200
        · rw [rkP_s g l] at h
          have h1 := rmkP_b hz k _ _ e w h
          have h2 := (blk_b (p := if ch p = 123 then q + 1 else q) hz).2
          have h3 : q ≤ (if ch p = 123 then q + 1 else q) := by split <;> omega
          omega
        · rw [rkP_l g (by omega)] at h; cases h
      · rw [rkP_n c (fun q hq => g ⟨q, hq⟩)] at h; cases h
    · rw [rkP_0 c] at h
      cases h
      omega
theorem mdP_b (hz : ∀ i, N ≤ i → ch i = 0) : ∀ (k : Nat) (p : Int) (K : List Int) (e : Int) (w : List Int), mdP ch k p K = some (e, w) → p ≤ e
  | 0, _, _, _, _, h => by cases h
  | k + 1, p, K, e, w, h => by
    by_cases c : ch p = 36
    · by_cases g : bdM ch p K
      · rw [md_n c g] at h; cases h
      · rw [md_s c g] at h
        have h1 := mdP_b hz k _ _ e w h
        have h2 := (blk_b (p := (dgs ch 3 (p + 1) 0).1) hz).2
        have h3 := (dgs_b (ch := ch) 3 (p + 1) 0).1
        omega
    · rw [md_0 c] at h
      cases h
      omega
theorem mkP_b (hz : ∀ i, N ≤ i → ch i = 0) {e : Int} {K : List Int} (h : mkP ch p = some (e, K)) : p ≤ e := by
  unfold mkP at h
  have h1 := (blk_b (p := p) hz).2
  split at h
  · have := mdP_b hz _ _ _ e K h
    omega
  · have h2 := mdP_b hz _ _ _ e K h
    have h3 := (blk_b (p := blk ch p + (if shM (ch (blk ch p)) (ch (blk ch p + 1)) ≤ 2 then 1 else 2)) hz).2
    have h4 : blk ch p ≤ blk ch p + (if shM (ch (blk ch p)) (ch (blk ch p + 1)) ≤ 2 then 1 else 2) := by split <;> omega
    omega
end MON
/-- the reference while it reads moves into game g -/
noncomputable def RSt (I0 I : Nat → Int32) (A0 A : Nat → Nat → Int32) (g : Nat) (ch : Int → Int) (N p : Int) (st : PO) (T : TRa) : Prop := RV I A ch N p ∧ p ≤ N ∧ g ≤ 1 ∧ TRr A g T ∧ SPp A g st ∧ (WT T ∧ LTr st T) ∧ (RDf A0 A g ∧ (∀ j, 16 ≤ j → j ≤ 23 → A j = A0 j) ∧ ∀ j, j ∉ [25, 26, 27, 28, 29, 33, 36, 37] → I j = I0 j)
/-- a refusal leaves this -/
noncomputable def RSn (I0 I : Nat → Int32) (A0 A : Nat → Nat → Int32) (g : Nat) : Prop := RDf A0 A g ∧ (∀ j, 16 ≤ j → j ≤ 23 → A j = A0 j) ∧ ∀ j, j ∉ [25, 26, 27, 28, 29, 33, 36, 37] → I j = I0 j
section RSL
variable {I I0 I1 : Nat → Int32} {A A0 A1 : Nat → Nat → Int32} {g la k : Nat} {ch : Int → Int} {N p q : Int} {st : PO} {T T' : TRa} {o : Int32 × MS} {x1 x2 x3 x4 : Int32}
theorem rs_n (h : RSt I0 I A0 A g ch N p st T) : RSn I0 I A0 A g := h.2.2.2.2.2.2
/-- a step that changes no table of any game -/
theorem rs_hi (h : RSt I0 I A0 A g ch N p st T) (hR : RV I1 A1 ch N q) (hq : q ≤ N) (hA : ∀ j, j ≤ 23 → A1 j = A j) (hI : ∀ j, j ∉ [25, 26, 27, 28, 29, 33, 36, 37] → I1 j = I j) : RSt I0 I1 A0 A1 g ch N q st T := by
  obtain ⟨-, -, hg, tr, sp, ⟨hw, hl⟩, rd, r2, r3⟩ := h
  refine ⟨hR, hq, hg, trr_e hg hw.1 tr (by rw [hA 7 (by decide)]) (fun j hj => hA j (by omega)), ?_, ⟨hw, hl⟩, rdf_t rd (rdf_hi hA), fun j h1 h2 => (hA j (by omega)).trans (r2 j h1 h2), fun j hj => (hI j hj).trans (r3 j hj)⟩
  unfold SPp SPo at sp ⊢
  rw [hA 16 (by decide), hA 17 (by decide)]
  exact sp
theorem rn_hi (h : RSn I0 I A0 A g) (hA : ∀ j, j ≤ 23 → A1 j = A j) (hI : ∀ j, j ∉ [25, 26, 27, 28, 29, 33, 36, 37] → I1 j = I j) : RSn I0 I1 A0 A1 g := ⟨rdf_t h.1 (rdf_hi hA), fun j h1 h2 => (hA j (by omega)).trans (h.2.1 j h1 h2), fun j hj => (hI j hj).trans (h.2.2 j hj)⟩
/-- a step in the tables of game g -/
theorem rs_g (h : RSt I0 I A0 A g ch N p st T) (hR : RV I1 A1 ch N q) (hq : q ≤ N) (hD : RDf A A1 g) (hA : ∀ j, 16 ≤ j → j ≤ 23 → A1 j = A j) (hI : ∀ j, j ∉ [25, 26, 27, 28, 29, 33, 36, 37] → I1 j = I j) (tr : TRr A1 g T') (hw : WT T') (hl : LTr st T') : RSt I0 I1 A0 A1 g ch N q st T' := by
  obtain ⟨-, -, hg, -, sp, -, rd, r2, r3⟩ := h
  refine ⟨hR, hq, hg, tr, ?_, ⟨hw, hl⟩, rdf_t rd hD, fun j h1 h2 => (hA j h1 h2).trans (r2 j h1 h2), fun j hj => (hI j hj).trans (r3 j hj)⟩
  unfold SPp SPo at sp ⊢
  rw [hA 16 (by decide) (by decide), hA 17 (by decide) (by decide)]
  exact sp
theorem rn_g (h : RSn I0 I A0 A g) (hD : RDf A A1 g) (hA : ∀ j, 16 ≤ j → j ≤ 23 → A1 j = A j) (hI : ∀ j, j ∉ [25, 26, 27, 28, 29, 33, 36, 37] → I1 j = I j) : RSn I0 I1 A0 A1 g := ⟨rdf_t h.1 hD, fun j h1 h2 => (hA j h1 h2).trans (h.2.1 j h1 h2), fun j hj => (hI j hj).trans (h.2.2 j hj)⟩
theorem n37 {j : Nat} (h : j ∉ [25, 26, 27, 28, 29, 33, 36, 37]) : j ≠ 37 := fun e => h (by rw [e]; decide)
/-- the remarks of node k -/
theorem rs_rk (h : RSt I0 I A0 A g ch N p st T) (h1 : x1.toInt = (g : Int)) (h2 : x2.toInt = (k : Int)) (hk : k ≤ tn T) (hf : f_readRemarks x1 x2 I A = some o) : (∃ e w, rmkP ch N 2001 (blk ch p) (tR T k) = some (e, w) ∧ o.1.toInt = 0 ∧ RSt I0 o.2.1 A0 o.2.2 g ch N e st (rkT T k w)) ∨ (rmkP ch N 2001 (blk ch p) (tR T k) = none ∧ 0 < o.1.toInt ∧ RSn I0 o.2.1 A0 o.2.2 g) := by
  obtain ⟨rv, hp, hg, tr, sp, ⟨hw, hl⟩, -⟩ := id h
  have h300 := hw.1
  have hr := (hw.2.2.1 k).1
  rcases v_readRemarks (k := 301 * g + k) h1 h2 (by omega) (by omega) (by omega) rv hp (tr.2.2 k hk).2.2 (by omega) hf with ⟨e, w, a1, a2, a3, a4, a5, a6, a7⟩ | ⟨a1, a2, a3⟩
  · exact Or.inl ⟨e, w, a1, a2, rs_g h a5 a4 (rdf_rm a6 (by omega)) (fun j j1 j2 => a6.2.1 j (by omega) (by omega)) (fun j hj => a6.1 j (n37 hj)) (trr_rk tr hw a6 a7) (wt_rk hw (by omega)) hl⟩
  · exact Or.inr ⟨a1, a2, rn_g (rs_n h) (rdf_rm a3 (by omega)) (fun j j1 j2 => a3.2.1 j (by omega) (by omega)) (fun j hj => a3.1 j (n37 hj))⟩
/-- the marks of node k -/
theorem rs_mm (h : RSt I0 I A0 A g ch N p st T) (h1 : x1.toInt = (g : Int)) (h2 : x2.toInt = (k : Int)) (hk : k ≤ tn T) (hK : tK T k = []) (hf : f_readMarks x1 x2 I A = some o) : (∃ e K, mkP ch p = some (e, K) ∧ o.1.toInt = 0 ∧ RSt I0 o.2.1 A0 o.2.2 g ch N e st (mkT T k K)) ∨ (mkP ch p = none ∧ 0 < o.1.toInt ∧ RSn I0 o.2.1 A0 o.2.2 g) := by
  obtain ⟨rv, hp, hg, tr, sp, ⟨hw, hl⟩, -⟩ := id h
  have h300 := hw.1
  rcases v_readMarks (k := 301 * g + k) h1 h2 (by omega) (by omega) (by omega) rv hp (by rw [← hK]; exact (tr.2.2 k hk).2.1) hf with ⟨e, w, a1, a2, a3, a4, a5, a6, a7⟩ | ⟨a1, a2, a3⟩
  · exact Or.inl ⟨e, w, a1, a2, rs_g h a5 a4 (rdf_rk a6 (by omega)) (fun j j1 j2 => a6.2.1 j (by omega) (by omega)) (fun j hj => a6.1 j (n37 hj)) (trr_mk tr hw a6 a7) (wt_mk hw (by omega)) hl⟩
  · exact Or.inr ⟨a1, a2, rn_g (rs_n h) (rdf_rk a3 (by omega)) (fun j j1 j2 => a3.2.1 j (by omega) (by omega)) (fun j hj => a3.1 j (n37 hj))⟩
/-- the reference goes to node k -/
theorem rs_pl (h : RSt I0 I A0 A g ch N p st T) (h1 : x1.toInt = (g : Int)) (h2 : x2.toInt = (k : Int)) (hk : k ≤ tn T) (hf : f_place x1 x2 I A = some o) : RSt I0 o.2.1 A0 o.2.2 g ch N p st T ∧ RPp o.2.1 o.2.2 (posT st T k) ∧ MVs o.2.1 o.2.2 (posT st T k) := by
  obtain ⟨rv, hp, hg, tr, sp, ⟨hw, hl⟩, -⟩ := id h
  obtain ⟨⟨hI, hA⟩, ⟨hc, hN, hn⟩, hcb, h37, hp0⟩ := id rv
  obtain ⟨a1, a2, a3⟩ := v_place hg h1 hw hl hI hA tr sp h2 hk hf
  have i1 := a3.1 1 (by decide)
  refine ⟨rs_hi h ⟨a1.1, ⟨by rw [tx_fr i1 (a3.2 2 (by decide))]; exact hc, by rw [i1]; exact hN, hn⟩, hcb, by rw [a3.1 37 (by decide)]; exact h37, hp0⟩ hp (fun j hj => a3.2 j (by simp; omega)) (fun j hj => a3.1 j (by simp at hj ⊢; omega)), a1, a2⟩
end RSL
end
section
theorem chL_n {M : Nat → Int} {m : Int} : ∀ l : List Nat, chL M m l = -1 ∨ 0 ≤ chL M m l
  | [] => Or.inl rfl
  | k :: l => by
    show (if M k = m then (k : Int) else chL M m l) = -1 ∨ 0 ≤ (if M k = m then (k : Int) else chL M m l)
    split
    · right; omega
    · exact chL_n l
section RVM
variable {I I0 : Nat → Int32} {A A0 : Nat → Nat → Int32} {g la : Nat} {ch : Int → Int} {N p a : Int} {st : PO} {T : TRa} {o : Int32 × MS} {x1 x2 x3 : Int32}
/-- how the reference's move ends, behind its number -/
noncomputable def MRo (I0 : Nat → Int32) (A0 : Nat → Nat → Int32) (g : Nat) (ch : Int → Int) (N : Int) (st : PO) (T : TRa) (la : Nat) (a : Int) (o : Int32 × MS) : Prop := (isL (ch a) ∧ 0 ≤ sgV (posT st T la) ch a (sgk ch a) ∧ chL (tM T) (sgV (posT st T la) ch a (sgk ch a)) (tL T la) = -1 ∧ tn T < 300 ∧ o.1.toInt = ((tn T + 1 : Nat) : Int) ∧ RSt I0 o.2.1 A0 o.2.2 g ch N (sgk ch a) st (grT T la (sgV (posT st T la) ch a (sgk ch a)))) ∨ (o.1.toInt < 0 ∧ -200000 ≤ o.1.toInt ∧ RSn I0 o.2.1 A0 o.2.2 g ∧ (¬ isL (ch a) ∨ sgV (posT st T la) ch a (sgk ch a) < 0 ∨ chL (tM T) (sgV (posT st T la) ch a (sgk ch a)) (tL T la) ≠ -1 ∨ 300 ≤ tn T))
theorem rvm_25 (hL : isL (ch a)) (ha : 0 ≤ a) (h1 : x1.toInt = (g : Int)) (h2 : x2.toInt = (la : Int)) (h3 : x3.toInt = a) (hla : la ≤ tn T) : ∀ (n : Nat) (I : Nat → Int32) (i : Int), a ≤ i → (∀ j, a ≤ j → j < i → isSg (ch j)) → RSt I0 I A0 A g ch N i st T → RPp I A (posT st T la) → MVs I A (posT st T la) → f_readMove_25 n x1 x2 x3 I A = some o → MRo I0 A0 g ch N st T la a o := by
  intro n
  induction n with
  | zero => intro I i _ _ _ _ _ hf; cases hf
  | succ n ih =>
    intro I i hai hs h hR hV hf
    have hf : f_readMove_25s (f_readMove_25 n) x1 x2 x3 I A = some o := hf
    obtain ⟨rv, hiN, hg, tr, sp, ⟨hw, hl⟩, -⟩ := id h
    obtain ⟨⟨hI, hA⟩, ⟨hc, hN, hn⟩, hcb, h37, hp0⟩ := id rv
    have h300 := hw.1
    obtain ⟨pg, nb1, nb2⟩ := lt_pg hw hl la hla
    have more : isSg (ch i) → f_readMove_81 (f_readMove_25 n) x1 x2 x3 I A = some o → MRo I0 A0 g ch N st T la a o := by
      intro hsg hf
      have iN : i < N := by
        by_cases e : i < N
        · exact e
        · have := rv_out rv (show N ≤ i by omega)
          rw [this] at hsg
          unfold isSg isL isD at hsg
          omega
      unfold f_readMove_81 at hf
      obtain ⟨v1, e_v1, hf⟩ := m_bndE hf
      have t_v1 : v1.toInt = (I 37).toInt + 1 := ti_add e_v1 rfl (show (1 : Int32).toInt = 1 from rfl) (by omega) (by omega)
      obtain ⟨I2, e_I2, hf⟩ := m_bndE hf
      have R2 : RV I2 A ch N (i + 1) := rv_at rv e_I2 (by omega) (by omega)
      have o2 : ∀ j, j ≠ 37 → I2 j = I j := fun j hj => by rw [e_I2, upd_ne hj]
      refine ih I2 (i + 1) (by omega) (fun j j0 j1 => ?_) (rs_hi h R2 (by omega) (fun _ _ => rfl) (fun j hj => o2 j (n37 hj))) ⟨R2.1, hR.2.1, by rw [o2 25 (by decide)]; exact hR.2.2.1, by rw [o2 26 (by decide)]; exact hR.2.2.2.1, by rw [o2 27 (by decide)]; exact hR.2.2.2.2.1, by rw [o2 29 (by decide)]; exact hR.2.2.2.2.2⟩ ⟨by rw [o2 33 (by decide)]; exact hV.1, hV.2⟩ hf
      by_cases e : j = i
      · rw [e]; exact hsg
      · exact hs j j0 (by omega)
    have bad : ∀ (t0 : Int32) (I9 : Nat → Int32) (A9 : Nat → Nat → Int32) (r v : Int32), RSn I0 I9 A0 A9 g → (0 ≤ t0.toInt ∧ t0.toInt ≤ 10) → 1 ≤ t0.toInt → f_fault t0 x3 I9 A9 = some (r, (I9, A9)) → v = -r → (¬ isL (ch a) ∨ sgV (posT st T la) ch a (sgk ch a) < 0 ∨ chL (tM T) (sgV (posT st T la) ch a (sgk ch a)) (tL T la) ≠ -1 ∨ 300 ≤ tn T) → MRo I0 A0 g ch N st T la a (v, (I9, A9)) := by
      intro t0 I9 A9 r v hn9 ht ht1 hfl hv hb
      have q := v_fault ht (show 0 ≤ x3.toInt ∧ x3.toInt ≤ 100000 by omega) hfl
      dsimp only at q
      have tv : v.toInt = -r.toInt := ti_neg hv rfl (by omega)
      exact Or.inr ⟨by show v.toInt < 0; omega, by show -200000 ≤ v.toInt; omega, hn9, hb⟩
    unfold f_readMove_25s at hf
    obtain ⟨r1, h_r1, hf⟩ := m_clR hf (fun _ h => rro_look h)
    have p_r1 := pc_look h_r1
    dsimp only at p_r1
    have q1 := rv_lk rv h_r1
    dsimp only at q1
    clear p_r1
    obtain ⟨r2, h_r2, hf⟩ := m_clR hf (fun _ h => rro_isLetter h)
    have p_r2 := pc_isLetter h_r2
    dsimp only at p_r2
    rw [q1] at p_r2
    rcases m_ifE hf with ⟨c1, hf⟩ | ⟨c1, hf⟩
    · skip
      replace c1 := ti_eqP (a := r2) (b := (0 : Int32)) c1 rfl (show (0 : Int32).toInt = 0 from rfl)
      obtain ⟨r3, h_r3, hf⟩ := m_clR hf (fun _ h => rro_look h)
      have p_r3 := pc_look h_r3
      dsimp only at p_r3
      have q3 := rv_lk rv h_r3
      dsimp only at q3
      clear p_r3
      obtain ⟨r4, h_r4, hf⟩ := m_clR hf (fun _ h => rro_isDigit h)
      have p_r4 := pc_isDigit h_r4
      dsimp only at p_r4
      rw [q3] at p_r4
      rcases m_ifE hf with ⟨c2, hf⟩ | ⟨c2, hf⟩
      · skip
        replace c2 := ti_eqP (a := r4) (b := (0 : Int32)) c2 rfl (show (0 : Int32).toInt = 0 from rfl)
        obtain ⟨r5, h_r5, hf⟩ := m_clR hf (fun _ h => rro_look h)
        have p_r5 := pc_look h_r5
        dsimp only at p_r5
        have q5 := rv_lk rv h_r5
        dsimp only at q5
        clear p_r5
        rcases m_ifE hf with ⟨c3, hf⟩ | ⟨c3, hf⟩
        · skip
          replace c3 := ti_eqP (a := r5) (b := (61 : Int32)) c3 rfl (show (61 : Int32).toInt = 61 from rfl)
          exact more (Or.inr (Or.inr (Or.inl (by omega)))) hf
        · skip
          replace c3 := ti_eqN (a := r5) (b := (61 : Int32)) c3 rfl (show (61 : Int32).toInt = 61 from rfl)
          obtain ⟨r6, h_r6, hf⟩ := m_clR hf (fun _ h => rro_look h)
          have p_r6 := pc_look h_r6
          dsimp only at p_r6
          have q6 := rv_lk rv h_r6
          dsimp only at q6
          clear p_r6
          rcases m_ifE hf with ⟨c4, hf⟩ | ⟨c4, hf⟩
          · skip
            replace c4 := ti_eqP (a := r6) (b := (45 : Int32)) c4 rfl (show (45 : Int32).toInt = 45 from rfl)
            exact more (Or.inr (Or.inr (Or.inr (Or.inl (by omega))))) hf
          · skip
            replace c4 := ti_eqN (a := r6) (b := (45 : Int32)) c4 rfl (show (45 : Int32).toInt = 45 from rfl)
            obtain ⟨r7, h_r7, hf⟩ := m_clR hf (fun _ h => rro_look h)
            have p_r7 := pc_look h_r7
            dsimp only at p_r7
            have q7 := rv_lk rv h_r7
            dsimp only at q7
            clear p_r7
            rcases m_ifE hf with ⟨c5, hf⟩ | ⟨c5, hf⟩
            · skip
              replace c5 := ti_eqP (a := r7) (b := (43 : Int32)) c5 rfl (show (43 : Int32).toInt = 43 from rfl)
              exact more (Or.inr (Or.inr (Or.inr (Or.inr (Or.inl (by omega)))))) hf
            · skip
              replace c5 := ti_eqN (a := r7) (b := (43 : Int32)) c5 rfl (show (43 : Int32).toInt = 43 from rfl)
              obtain ⟨r8, h_r8, hf⟩ := m_clR hf (fun _ h => rro_look h)
              have p_r8 := pc_look h_r8
              dsimp only at p_r8
              have q8 := rv_lk rv h_r8
              dsimp only at q8
              clear p_r8
              rcases m_ifE hf with ⟨c6, hf⟩ | ⟨c6, hf⟩
              · skip
                replace c6 := ti_eqP (a := r8) (b := (35 : Int32)) c6 rfl (show (35 : Int32).toInt = 35 from rfl)
                exact more (Or.inr (Or.inr (Or.inr (Or.inr (Or.inr (by omega)))))) hf
              · skip
                replace c6 := ti_eqN (a := r8) (b := (35 : Int32)) c6 rfl (show (35 : Int32).toInt = 35 from rfl)
                obtain ⟨⟨r9, Ic9, Ac9⟩, h_r9, hf⟩ := m_clE hf
                dsimp only at hf
                have ns : ¬ isSg (ch i) := by
                  rintro (e | e | e | e | e | e)
                  · have := p_r2.2.2 e; omega
                  · have := p_r4.2.2 e; omega
                  · omega
                  · omega
                  · omega
                  · omega
                have ei : sgk ch a = i := sgk_e ⟨hai, hs, ns⟩
                have U : UJ (om (posT st T la)) (osd (posT st T la)) (ort (posT st T la)) (ops (posT st T la)) (oko (posT st T la)) ch N I A := ⟨⟨hI, hA, hR.2.1, hR.2.2.1, hR.2.2.2.1, hR.2.2.2.2.1, by rw [hR.2.2.2.2.2]; omega, hc, hN⟩, hV.1, hV.2⟩
                obtain ⟨f1, f2⟩ := p_understood U pg rfl (show 0 ≤ x3.toInt ∧ x3.toInt ≤ 2000 by omega) (show 0 ≤ (I 37).toInt ∧ (I 37).toInt ≤ N by omega) (by omega) h_r9
                have fw := fw_understood h_r9
                dsimp only at f1 f2 fw
                rw [h3, h37] at f2
                have t9 : r9.toInt = sgV (posT st T la) ch a (sgk ch a) := by rw [ei]; exact sgV_r f2
                have R9 : RV Ic9 Ac9 ch N i := ⟨⟨f1.1, f1.2.1⟩, ⟨f1.2.2.2.2.2.2.2.1, f1.2.2.2.2.2.2.2.2, hn⟩, hcb, by rw [fw.1 37 (by decide)]; exact h37, hp0⟩
                have S9 := rs_hi h R9 hiN (fun j hj => fw.2 j (by simp; omega)) (fun j hj => fw.1 j (by simp at hj ⊢; omega))
                have tr9 := S9.2.2.2.1
                rcases m_ifE hf with ⟨c7, hf⟩ | ⟨c7, hf⟩
                · skip
                  replace c7 := ti_leP (a := (0 : Int32)) (b := r9) c7 (show (0 : Int32).toInt = 0 from rfl) rfl
                  obtain ⟨r10, h_r10, hf⟩ := m_clR hf (fun _ h => rro_childWith h)
                  obtain ⟨-, t10⟩ := v_childWith hg h300 tr9 h1 h2 hla h_r10
                  dsimp only at t10
                  rw [t9] at t10
                  have cn := chL_n (M := tM T) (m := sgV (posT st T la) ch a (sgk ch a)) (tL T la)
                  rcases m_ifE hf with ⟨c8, hf⟩ | ⟨c8, hf⟩
                  · skip
                    replace c8 := ti_ltP (a := r10) (b := (0 : Int32)) c8 rfl (show (0 : Int32).toInt = 0 from rfl)
                    obtain ⟨-, hf⟩ := m_chkE hf
                    obtain ⟨v11, e_v11, hf⟩ := m_bndE hf
                    have t11 : v11.toInt = (tn T : Int) := by
                      have e := tr9.1
                      have b7 := tA_7 R9.1.2 g
                      unfold aK at e
                      rw [e_v11, cl_n h1]
                      omega
                    rcases m_ifE hf with ⟨c9, hf⟩ | ⟨c9, hf⟩
                    · skip
                      replace c9 := ti_eqP (a := v11) (b := (300 : Int32)) c9 rfl (show (300 : Int32).toInt = 300 from rfl)
                      obtain ⟨r13, h_r13, hf⟩ := m_clR hf (fun _ h => rro_fault h)
                      obtain ⟨v14, e_v14, hf⟩ := m_bndE hf
                      cases hf
                      try dsimp only
                      exact bad 8 Ic9 Ac9 r13 v14 (rs_n S9) (by decide) (by decide) h_r13 e_v14 (Or.inr (Or.inr (Or.inr (by omega))))
                    · skip
                      replace c9 := ti_eqN (a := v11) (b := (300 : Int32)) c9 rfl (show (300 : Int32).toInt = 300 from rfl)
                      obtain ⟨⟨r12, Ic12, Ac12⟩, h_r12, hf⟩ := m_clE hf
                      dsimp only at hf
                      have mb := (sgV_l pg (show 0 ≤ sgV (posT st T la) ch a (sgk ch a) by omega))
                      obtain ⟨a1, a2, a3, a4, a5, a6⟩ := v_append hg R9.1.2 hw tr9 h1 h2 hla (by rw [t9]; exact mb.1) (by omega) h_r12
                      dsimp only at a1 a2 a3 a4 a5 a6
                      rw [t9] at a4
                      rw [a2] at hf
                      have R12 : RV Ic9 Ac12 ch N i := rv_A R9 a3 (a5.1 2 (by decide))
                      cases hf
                      try dsimp only
                      refine Or.inl ⟨hL, by omega, by omega, by omega, a1, ?_⟩
                      rw [← ei] at R12 S9
                      exact rs_g S9 R12 (by omega) a5 (fun j j1 j2 => a6 j (by omega)) (fun _ _ => rfl) a4 (wt_gr hw hla (by omega) mb.1) (lt_gr hw hl hla mb)
                  · skip
                    replace c8 := ti_ltN (a := r10) (b := (0 : Int32)) c8 rfl (show (0 : Int32).toInt = 0 from rfl)
                    obtain ⟨r15, h_r15, hf⟩ := m_clR hf (fun _ h => rro_fault h)
                    obtain ⟨v16, e_v16, hf⟩ := m_bndE hf
                    cases hf
                    try dsimp only
                    exact bad 6 Ic9 Ac9 r15 v16 (rs_n S9) (by decide) (by decide) h_r15 e_v16 (Or.inr (Or.inr (Or.inl (by omega))))
                · skip
                  replace c7 := ti_leN (a := (0 : Int32)) (b := r9) c7 (show (0 : Int32).toInt = 0 from rfl) rfl
                  rcases m_ifE hf with ⟨c10, hf⟩ | ⟨c10, hf⟩
                  · skip
                    replace c10 := ti_eqP (a := r9) (b := (-2 : Int32)) c10 rfl (show (-2 : Int32).toInt = -2 from rfl)
                    unfold f_readMove_122 at hf
                    obtain ⟨r5', h_r5', hf⟩ := m_clR hf (fun _ h => rro_fault h)
                    obtain ⟨v2, e2, hf⟩ := m_bndE hf
                    cases hf
                    exact bad 5 Ic9 Ac9 r5' v2 (rs_n S9) (by decide) (by decide) h_r5' e2 (Or.inr (Or.inl (by omega)))
                  · skip
                    replace c10 := ti_eqN (a := r9) (b := (-2 : Int32)) c10 rfl (show (-2 : Int32).toInt = -2 from rfl)
                    unfold f_readMove_122 at hf
                    obtain ⟨r5', h_r5', hf⟩ := m_clR hf (fun _ h => rro_fault h)
                    obtain ⟨v2, e2, hf⟩ := m_bndE hf
                    cases hf
                    exact bad 4 Ic9 Ac9 r5' v2 (rs_n S9) (by decide) (by decide) h_r5' e2 (Or.inr (Or.inl (by omega)))
      · skip
        replace c2 := ti_eqN (a := r4) (b := (0 : Int32)) c2 rfl (show (0 : Int32).toInt = 0 from rfl)
        exact more (Or.inr (Or.inl (p_r4.2.1 (by omega)))) hf
    · skip
      replace c1 := ti_eqN (a := r2) (b := (0 : Int32)) c1 rfl (show (0 : Int32).toInt = 0 from rfl)
      exact more (Or.inl (p_r2.2.1 (by omega))) hf
theorem v_readMove (h : RSt I0 I A0 A g ch N a st T) (h1 : x1.toInt = (g : Int)) (h2 : x2.toInt = (la : Int)) (hla : la ≤ tn T) (hR : RPp I A (posT st T la)) (hV : MVs I A (posT st T la)) (hf : f_readMove x1 x2 I A = some o) : MRo I0 A0 g ch N st T la a o := by
  have hf : f_readMove_0 x1 x2 I A = some o := hf
  obtain ⟨rv, hiN, hg, tr, sp, ⟨hw, hl⟩, -⟩ := id h
  obtain ⟨⟨hI, hA⟩, ⟨hc, hN, hn⟩, hcb, h37, hp0⟩ := id rv
  unfold f_readMove_0 at hf
  obtain ⟨r1, h_r1, hf⟩ := m_clR hf (fun _ h => rro_look h)
  have p_r1 := pc_look h_r1
  dsimp only at p_r1
  have q1 := rv_lk rv h_r1
  dsimp only at q1
  clear p_r1
  obtain ⟨r2, h_r2, hf⟩ := m_clR hf (fun _ h => rro_isLetter h)
  have p_r2 := pc_isLetter h_r2
  dsimp only at p_r2
  rw [q1] at p_r2
  rcases m_ifE hf with ⟨c1, hf⟩ | ⟨c1, hf⟩
  · skip
    replace c1 := ti_eqP (a := r2) (b := (0 : Int32)) c1 rfl (show (0 : Int32).toInt = 0 from rfl)
    obtain ⟨r3, h_r3, hf⟩ := m_clR hf (fun _ h => rro_fault h)
    have q3 := v_fault (x1 := 1) (x2 := I 37) (by decide) (by omega) h_r3
    dsimp only at q3
    have z1 : (1 : Int32).toInt = 1 := rfl
    obtain ⟨v4, e_v4, hf⟩ := m_bndE hf
    have t_v4 : v4.toInt = -r3.toInt := ti_neg e_v4 rfl (by omega)
    cases hf
    try dsimp only
    exact Or.inr ⟨by show v4.toInt < 0; omega, by show -200000 ≤ v4.toInt; omega, rs_n h, Or.inl (fun g => by have := p_r2.2.2 g; omega)⟩
  · skip
    replace c1 := ti_eqN (a := r2) (b := (0 : Int32)) c1 rfl (show (0 : Int32).toInt = 0 from rfl)
    exact rvm_25 (p_r2.2.1 (by omega)) (by omega) h1 h2 h37 hla mFuel I a (Int.le_refl _) (fun j j0 j1 => by omega) h hR hV hf
end RVM
end
section
theorem rmkP_f {ch : Int → Int} {N : Int} (hz : ∀ i, N ≤ i → ch i = 0) : ∀ (k : Nat) (p : Int) (r : List Int) (e : Int) (w : List Int), blk ch p = p → rmkP ch N k p r = some (e, w) → blk ch e = e
  | 0, _, _, _, _, _, h => by cases h
  | k + 1, p, r, e, w, hp, h => by
    by_cases c : ch p = 123 ∨ ch p = 59
    · by_cases g : ∃ q, RM1 ch N p q
      · obtain ⟨q, g⟩ := g
        by_cases l : ((jnR r ch (p + 1) (q - (p + 1)).toNat).length : Int) ≤ 200
        · rw [rkP_s g l] at h
          exact rmkP_f hz k _ _ e w (blk_i hz) h
        · rw [rkP_l g (by omega)] at h; cases h
      · rw [rkP_n c (fun q hq => g ⟨q, hq⟩)] at h; cases h
    · rw [rkP_0 c] at h
      cases h
      exact hp
/-- a tree that has grown -/
noncomputable def EXt (T T' : TRa) : Prop := tn T ≤ tn T' ∧ ∀ k, k ≤ tn T → tP T' k = tP T k
theorem ext_0 {T : TRa} : EXt T T := ⟨Nat.le_refl _, fun _ _ => rfl⟩
theorem ext_t {T T1 T2 : TRa} (h : EXt T T1) (g : EXt T1 T2) : EXt T T2 := ⟨Nat.le_trans h.1 g.1, fun k hk => (g.2 k (Nat.le_trans hk h.1)).trans (h.2 k hk)⟩
theorem ext_gr {T : TRa} {p : Nat} {m : Int} : EXt T (grT T p m) := ⟨Nat.le_succ _, fun k hk => if_neg (show ¬ k = tn T + 1 by omega)⟩
/-- how a line of the reference ends -/
noncomputable def RLo (I0 : Nat → Int32) (A0 : Nat → Nat → Int32) (g : Nat) (ch : Int → Int) (N : Int) (st : PO) (nd : Nat) (rest : List (Nat × Nat)) (p : Int) (tip : Nat) (T : TRa) (o : Int32 × MS) : Prop := (0 < o.1.toInt ∧ RSn I0 o.2.1 A0 o.2.2 g ∧ ∀ k : Nat, N < p + (k : Int) → mach ch N st k p ((nd, tip) :: rest) T = none) ∨ (o.1.toInt = 0 ∧ ∃ e T', RSt I0 o.2.1 A0 o.2.2 g ch N e st T' ∧ EXt T T' ∧ ((rest = [] ∧ rsV ch e ≠ -1 ∧ ∀ k : Nat, N < p + (k : Int) → mach ch N st k p ((nd, tip) :: rest) T = some (e, T')) ∨ (rest ≠ [] ∧ ∃ tip', tip' ≠ nd ∧ tip' ≤ tn T' ∧ ch e = 41 ∧ p ≤ e ∧ blk ch e = e ∧ ∀ k : Nat, N < p + (k : Int) → ∃ k' : Nat, N < e + (k' : Int) ∧ mach ch N st k p ((nd, tip) :: rest) T = mach ch N st k' e ((nd, tip') :: rest) T')))
section RLS
variable {I I0 : Nat → Int32} {A A0 : Nat → Nat → Int32} {g nd tip : Nat} {rest : List (Nat × Nat)} {ch : Int → Int} {N p : Int} {st : PO} {T : TRa} {o : Int32 × MS} {x1 x2 x3 : Int32}
/-- a step of the machine before -/
theorem rlo_up {e : Int} {tip1 : Nat} {T1 : TRa} (h : RLo I0 A0 g ch N st nd rest e tip1 T1 o) (hx : EXt T T1) (hpe : p ≤ e) (hpN : p ≤ N) (hm : ∀ k : Nat, N < p + ((k + 1 : Nat) : Int) → ∃ k1 : Nat, N < e + (k1 : Int) ∧ mach ch N st (k + 1) p ((nd, tip) :: rest) T = mach ch N st k1 e ((nd, tip1) :: rest) T1) : RLo I0 A0 g ch N st nd rest p tip T o := by
  have sp : ∀ k : Nat, N < p + (k : Int) → ∃ k', k = k' + 1 := fun k hk => ⟨k - 1, by omega⟩
  rcases h with ⟨a1, a2, a3⟩ | ⟨a1, e', T', a2, a3, a4⟩
  · refine Or.inl ⟨a1, a2, fun k hk => ?_⟩
    obtain ⟨k', rfl⟩ := sp k hk
    obtain ⟨k1, b1, b2⟩ := hm k' hk
    rw [b2]; exact a3 k1 b1
  · refine Or.inr ⟨a1, e', T', a2, ext_t hx a3, ?_⟩
    rcases a4 with ⟨c1, c2, c3⟩ | ⟨c1, tip', c2, c3, c4, c5, c6, c7⟩
    · refine Or.inl ⟨c1, c2, fun k hk => ?_⟩
      obtain ⟨k', rfl⟩ := sp k hk
      obtain ⟨k1, b1, b2⟩ := hm k' hk
      rw [b2]; exact c3 k1 b1
    · refine Or.inr ⟨c1, tip', c2, c3, c4, by omega, c6, fun k hk => ?_⟩
      obtain ⟨k', rfl⟩ := sp k hk
      obtain ⟨k1, b1, b2⟩ := hm k' hk
      obtain ⟨k2, b3, b4⟩ := c7 k1 b1
      exact ⟨k2, b3, b2.trans b4⟩
/-- a fault -/
theorem rlo_no (hpN : p ≤ N) (h1 : 0 < o.1.toInt) (h2 : RSn I0 o.2.1 A0 o.2.2 g) (hm : ∀ k : Nat, N < p + ((k + 1 : Nat) : Int) → mach ch N st (k + 1) p ((nd, tip) :: rest) T = none) : RLo I0 A0 g ch N st nd rest p tip T o := by
  refine Or.inl ⟨h1, h2, fun k hk => ?_⟩
  obtain ⟨k', rfl⟩ : ∃ k', k = k' + 1 := ⟨k - 1, by omega⟩
  exact hm k' hk
theorem rl_113f {x4 x5 x7 : Int32} {rec : Int32 → Int32 → Int32 → (Nat → Int32) → (Nat → Nat → Int32) → Option (Int32 × MS)} {self3 : Int32 → Int32 → Int32 → Int32 → (Nat → Int32) → (Nat → Nat → Int32) → Option (Int32 × MS)} (h5 : 0 < x5.toInt) : ∀ (n : Nat), f_readLine_113 rec self3 n x1 x2 x3 x4 x5 x7 I A = some o → o = (x5, (I, A)) := by
  intro n hf
  cases n with
  | zero => cases hf
  | succ n =>
    have hf : f_readLine_113s rec self3 (f_readLine_113 rec self3 n) x1 x2 x3 x4 x5 x7 I A = some o := hf
    have z0 : (0 : Int32).toInt = 0 := rfl
    unfold f_readLine_113s f_readLine_224 at hf
    rcases m_ifE hf with ⟨c, hf⟩ | ⟨-, hf⟩
    · rw [c] at h5; omega
    · rcases m_ifE hf with ⟨c, hf⟩ | ⟨-, hf⟩
      · have := Int32.le_iff_toInt_le.1 c; omega
      · cases hf; rfl
/-- other lines instead of the node tip -/
theorem rl_113 {bf n3 : Nat} {x4 x7 : Int32} {rec : Int32 → Int32 → Int32 → (Nat → Int32) → (Nat → Nat → Int32) → Option (Int32 × MS)} (h1 : x1.toInt = (g : Int)) (h3 : x3.toInt = (rest.length : Int)) (hr6 : rest.length ≤ 6) (h4 : x4.toInt = (tip : Int)) (h7 : x7.toInt = (bf : Int)) (htn : tip ≠ nd)
    (hrec : ∀ (y2 y3 : Int32) (I : Nat → Int32) (A : Nat → Nat → Int32) (n2 : Nat) (rest2 : List (Nat × Nat)) (p : Int) (T : TRa) (o : Int32 × MS), y2.toInt = (n2 : Int) → n2 ≤ tn T → y3.toInt = (rest2.length : Int) → rest2.length ≤ 6 → RSt I0 I A0 A g ch N p st T → rec x1 y2 y3 I A = some o → RLo I0 A0 g ch N st n2 rest2 p n2 T o)
    (h3c : ∀ (I : Nat → Int32) (A : Nat → Nat → Int32) (p : Int) (T : TRa), tip ≤ tn T → blk ch p = p → ch p ≠ 40 → RSt I0 I A0 A g ch N p st T → f_readLine_3 rec n3 x1 x2 x3 x4 I A = some o → RLo I0 A0 g ch N st nd rest p tip T o) : ∀ (n : Nat) (x5 : Int32) (I : Nat → Int32) (A : Nat → Nat → Int32) (p : Int) (T : TRa), x5.toInt = 0 → tip ≤ tn T → (tP T tip).toNat = bf → bf ≤ tn T → blk ch p = p → RSt I0 I A0 A g ch N p st T → f_readLine_113 rec (f_readLine_3 rec n3) n x1 x2 x3 x4 x5 x7 I A = some o → RLo I0 A0 g ch N st nd rest p tip T o := by
  intro n
  induction n with
  | zero => intro x5 I A p T _ _ _ _ _ _ hf; cases hf
  | succ n ih =>
    intro x5 I A p T h5 htt hbf hbn hbp h hf
    have hf : f_readLine_113s rec (f_readLine_3 rec n3) (f_readLine_113 rec (f_readLine_3 rec n3) n) x1 x2 x3 x4 x5 x7 I A = some o := hf
    obtain ⟨rv, hpN, hg, tr, sp, ⟨hw, hl⟩, -⟩ := id h
    obtain ⟨⟨hI, hA⟩, ⟨hc, hN, hn⟩, hcb, h37, hp0⟩ := id rv
    have hz : ∀ i, N ≤ i → ch i = 0 := fun i hi => rv_out rv hi
    have z0 : (0 : Int32).toInt = 0 := rfl
    -- behind the inner line
    have aft : ∀ (r4 : Int32) (I4 : Nat → Int32) (A4 : Nat → Nat → Int32), ch p = 40 → p < N → rest.length < 6 → RLo I0 A0 g ch N st bf ((nd, tip) :: rest) (p + 1) bf T (r4, (I4, A4)) → f_readLine_178 rec (f_readLine_3 rec n3) (f_readLine_113 rec (f_readLine_3 rec n3) n) x1 x2 x3 x4 x7 r4 I4 A4 = some o → RLo I0 A0 g ch N st nd rest p tip T o := by
      intro r4 I4 A4 c40 pN hlt hR hf
      have nr : ¬ (rest = [] ∧ rsV ch (blk ch p) ≠ -1) := fun e => e.2 (by
        rw [hbp]
        unfold rsV
        rw [if_neg (by omega), if_neg (by omega), if_neg (by omega), if_neg (by omega)])
      have step : ∀ k : Nat, mach ch N st (k + 1) p ((nd, tip) :: rest) T = mach ch N st k (p + 1) ((bf, bf) :: (nd, tip) :: rest) T := fun k => by
        rw [mc_o nr ⟨htn, by rw [hbp]; exact c40⟩, if_neg (by omega), hbp, hbf]
      rcases hR with ⟨a1, a2, a3⟩ | ⟨a1, e, T', a2, a3, a4⟩
      · dsimp only at a1 a2
        have e9 : o = (r4, (upd I4 37 (I4 37), A4)) := by
          unfold f_readLine_178 at hf
          rcases m_ifE hf with ⟨c, hf⟩ | ⟨-, hf⟩
          · have := Int32.le_iff_toInt_le.1 c; omega
          · unfold f_readLine_199 at hf
            obtain ⟨I5, e5, hf⟩ := m_bndE hf
            rcases m_ifE hf with ⟨c, hf⟩ | ⟨-, hf⟩
            · have := Int32.le_iff_toInt_le.1 c; omega
            · unfold f_readLine_219 at hf
              rw [e5] at hf
              exact rl_113f a1 n hf
        rw [e9]
        refine rlo_no hpN a1 (rn_hi a2 (fun _ _ => rfl) (fun j hj => upd_ne (n37 hj))) (fun k hk => ?_)
        rw [step k]
        exact a3 k (by omega)
      · dsimp only at a1 a2
        obtain ⟨-, tip', c2, c3, c4, c5, c6, c7⟩ : ((nd, tip) :: rest ≠ []) ∧ ∃ tip', tip' ≠ bf ∧ tip' ≤ tn T' ∧ ch e = 41 ∧ p + 1 ≤ e ∧ blk ch e = e ∧ ∀ k : Nat, N < p + 1 + (k : Int) → ∃ k' : Nat, N < e + (k' : Int) ∧ mach ch N st k (p + 1) ((bf, bf) :: (nd, tip) :: rest) T = mach ch N st k' e ((bf, tip') :: (nd, tip) :: rest) T' := by
          rcases a4 with ⟨c1, -⟩ | a4
          · cases c1
          · exact a4
        obtain ⟨rv4, e4N, -⟩ := id a2
        have i437 := rv4.2.2.2.1
        have e0 := rv4.2.2.2.2
        have eN : e < N := by
          by_cases q : e < N
          · exact q
          · have := hz e (by omega); omega
        unfold f_readLine_178 at hf
        rcases m_ifE hf with ⟨-, hf⟩ | ⟨c, hf⟩
        · obtain ⟨v1, e1, hf⟩ := m_bndE hf
          have t1 : v1.toInt = (I4 37).toInt + 1 := ti_add e1 rfl (show (1 : Int32).toInt = 1 from rfl) (by omega) (by omega)
          unfold f_readLine_199 at hf
          obtain ⟨I5, e5, hf⟩ := m_bndE hf
          have R5 : RV I5 A4 ch N (e + 1) := rv_at rv4 e5 (by omega) (by omega)
          have S5 := rs_hi a2 R5 (by omega) (fun _ _ => rfl) (fun j hj => by rw [e5, upd_ne (n37 hj)])
          rcases m_ifE hf with ⟨-, hf⟩ | ⟨c, hf⟩
          · obtain ⟨⟨r2, I6, A6⟩, h_r2, hf⟩ := m_clE hf
            dsimp only at hf
            unfold f_readLine_219 at hf
            have g2 := rs_rk S5 h1 h4 (Nat.le_trans htt a3.1) h_r2
            dsimp only at g2
            have st2 : ∀ k' : Nat, mach ch N st (k' + 1) e ((bf, tip') :: (nd, tip) :: rest) T' = match rmkP ch N 2001 (blk ch (e + 1)) (tR T' tip) with
                | none => none
                | some (e2, w) => mach ch N st k' e2 ((nd, tip) :: rest) (rkT T' tip w) := fun k' => by
              rw [mc_c (fun q => by cases q.1) ⟨c2, (fun q => by cases q), by rw [c6]; exact c4⟩, c6]
              rfl
            rcases g2 with ⟨e2, w, b1, b2, b3⟩ | ⟨b1, b2, b3⟩
            · have ge2 : e + 1 ≤ e2 := by
                have q1 := rmkP_b hz _ _ _ _ _ b1
                have q2 := (blk_b (p := e + 1) hz).2
                omega
              have fe2 := rmkP_f hz _ _ _ _ _ (blk_i hz) b1
              have key := ih r2 I6 A6 e2 (rkT T' tip w) b2 (Nat.le_trans htt a3.1) (by show (tP T' tip).toNat = bf; rw [a3.2 tip htt]; exact hbf) (Nat.le_trans hbn a3.1) fe2 b3 hf
              refine rlo_up key (ext_t a3 ⟨Nat.le_refl _, fun _ _ => rfl⟩) (by omega) hpN (fun k hk => ?_)
              rw [step k]
              obtain ⟨k', d1, d2⟩ := c7 k (by omega)
              obtain ⟨k2, rfl⟩ : ∃ k2, k' = k2 + 1 := ⟨k' - 1, by omega⟩
              refine ⟨k2, by omega, ?_⟩
              rw [d2, st2 k2, b1]
            · have e9 := rl_113f b2 n hf
              rw [e9]
              refine rlo_no hpN b2 b3 (fun k hk => ?_)
              rw [step k]
              obtain ⟨k', d1, d2⟩ := c7 k (by omega)
              obtain ⟨k2, rfl⟩ : ∃ k2, k' = k2 + 1 := ⟨k' - 1, by omega⟩
              rw [d2, st2 k2, b1]
          · exact absurd (Int32.le_iff_toInt_le.2 (by omega)) c
        · exact absurd (Int32.le_iff_toInt_le.2 (by omega)) c
    have p40 : ch p = 40 → p < N := fun e => by
      by_cases q : p < N
      · exact q
      · have := hz p (by omega); omega
    unfold f_readLine_113s at hf
    rcases m_ifE hf with ⟨-, hf⟩ | ⟨c, hf⟩
    · obtain ⟨r1, h_r1, hf⟩ := m_clR hf (fun _ h => rro_look h)
      have q1 := rv_lk rv h_r1
      dsimp only at q1
      rcases m_ifE hf with ⟨c1, hf⟩ | ⟨c1, hf⟩
      · replace c1 := ti_eqP (a := r1) (b := (40 : Int32)) c1 rfl (show (40 : Int32).toInt = 40 from rfl)
        have c40 : ch p = 40 := by omega
        have pN := p40 c40
        rcases m_ifE hf with ⟨c2, hf⟩ | ⟨c2, hf⟩
        · replace c2 := ti_eqP (a := x3) (b := (6 : Int32)) c2 rfl (show (6 : Int32).toInt = 6 from rfl)
          obtain ⟨r2, h_r2, hf⟩ := m_clR hf (fun _ h => rro_fault h)
          have q2 := v_fault (x1 := 8) (x2 := I 37) (by decide) (by omega) h_r2
          dsimp only at q2
          have z8 : (8 : Int32).toInt = 8 := rfl
          have pos : 0 < r2.toInt := by omega
          have e9 : ∃ I9 : Nat → Int32, (∀ j, j ≠ 37 → I9 j = I j) ∧ o = (r2, (I9, A)) := by
            unfold f_readLine_146 at hf
            obtain ⟨v1, -, hf⟩ := m_bndE hf
            obtain ⟨I2, e2, hf⟩ := m_bndE hf
            rcases m_ifE hf with ⟨c, hf⟩ | ⟨-, hf⟩
            · have := Int32.le_iff_toInt_le.1 c; omega
            · unfold f_readLine_178 at hf
              rcases m_ifE hf with ⟨c, hf⟩ | ⟨-, hf⟩
              · have := Int32.le_iff_toInt_le.1 c; omega
              · unfold f_readLine_199 at hf
                obtain ⟨I5, e5, hf⟩ := m_bndE hf
                rcases m_ifE hf with ⟨c, hf⟩ | ⟨-, hf⟩
                · have := Int32.le_iff_toInt_le.1 c; omega
                · unfold f_readLine_219 at hf
                  exact ⟨I5, fun j hj => by rw [e5, upd_ne hj, e2, upd_ne hj], rl_113f pos n hf⟩
          obtain ⟨I9, f9, e9⟩ := e9
          rw [e9]
          refine rlo_no hpN pos (rn_hi (rs_n h) (fun _ _ => rfl) (fun j hj => f9 j (n37 hj))) (fun k hk => ?_)
          have nr : ¬ (rest = [] ∧ rsV ch (blk ch p) ≠ -1) := fun e => by
            rw [e.1] at h3
            have : (([] : List (Nat × Nat)).length : Int) = 0 := rfl
            omega
          rw [mc_o nr ⟨htn, by rw [hbp]; exact c40⟩, if_pos (by omega)]
        · replace c2 := ti_eqN (a := x3) (b := (6 : Int32)) c2 rfl (show (6 : Int32).toInt = 6 from rfl)
          unfold f_readLine_146 at hf
          obtain ⟨v1, e1, hf⟩ := m_bndE hf
          obtain ⟨I2, e2, hf⟩ := m_bndE hf
          have t1 : v1.toInt = (I 37).toInt + 1 := ti_add e1 rfl (show (1 : Int32).toInt = 1 from rfl) (by omega) (by omega)
          have R2 : RV I2 A ch N (p + 1) := rv_at rv e2 (by omega) (by omega)
          have S2 := rs_hi h R2 (by omega) (fun _ _ => rfl) (fun j hj => by rw [e2, upd_ne (n37 hj)])
          rcases m_ifE hf with ⟨-, hf⟩ | ⟨c, hf⟩
          · obtain ⟨v3, e3, hf⟩ := m_bndE hf
            have t3 : v3.toInt = x3.toInt + 1 := ti_add e3 rfl (show (1 : Int32).toInt = 1 from rfl) (by omega) (by omega)
            obtain ⟨⟨r4, I4, A4⟩, h_r4, hf⟩ := m_clE hf
            dsimp only at hf
            have g4 := hrec x7 v3 I2 A bf ((nd, tip) :: rest) (p + 1) T _ h7 hbn (by show v3.toInt = ((rest.length + 1 : Nat) : Int); omega) (by show rest.length + 1 ≤ 6; omega) S2 h_r4
            exact aft r4 I4 A4 c40 pN (by omega) g4 hf
          · exact absurd (Int32.le_iff_toInt_le.2 (show (0 : Int32).toInt ≤ (0 : Int32).toInt by decide)) c
      · replace c1 := ti_eqN (a := r1) (b := (40 : Int32)) c1 rfl (show (40 : Int32).toInt = 40 from rfl)
        unfold f_readLine_224 at hf
        rcases m_ifE hf with ⟨-, hf⟩ | ⟨c, hf⟩
        · exact h3c I A p T htt hbp (by omega) h hf
        · exact absurd (Int32.le_iff_toInt_le.2 (by omega)) c
    · exact absurd (Int32.toInt_inj.1 h5) c
end RLS
end
section
theorem rsV_b {ch : Int → Int} {p : Int} : -1 ≤ rsV ch p ∧ rsV ch p ≤ 3 := by
  unfold rsV
  split
  · decide
  · split
    · decide
    · split
      · decide
      · split <;> decide
section RL3
variable {I0 : Nat → Int32} {A0 : Nat → Nat → Int32} {g : Nat} {ch : Int → Int} {N : Int} {st : PO} {x1 : Int32}
/-- a line of the reference from its loop's head on -/
theorem rl_3 {x2 x3 : Int32} {nd : Nat} {rest : List (Nat × Nat)} {o : Int32 × MS} {rec : Int32 → Int32 → Int32 → (Nat → Int32) → (Nat → Nat → Int32) → Option (Int32 × MS)} (h1 : x1.toInt = (g : Int)) (h2 : x2.toInt = (nd : Int)) (h3 : x3.toInt = (rest.length : Int)) (hr6 : rest.length ≤ 6)
    (hrec : ∀ (y2 y3 : Int32) (I : Nat → Int32) (A : Nat → Nat → Int32) (n2 : Nat) (rest2 : List (Nat × Nat)) (p : Int) (T : TRa) (o : Int32 × MS), y2.toInt = (n2 : Int) → n2 ≤ tn T → y3.toInt = (rest2.length : Int) → rest2.length ≤ 6 → RSt I0 I A0 A g ch N p st T → rec x1 y2 y3 I A = some o → RLo I0 A0 g ch N st n2 rest2 p n2 T o) : ∀ (n : Nat) (x4 : Int32) (I : Nat → Int32) (A : Nat → Nat → Int32) (p : Int) (tip : Nat) (T : TRa), x4.toInt = (tip : Int) → tip ≤ tn T → nd ≤ tip → (tip = nd ∨ (blk ch p = p ∧ ch p ≠ 40)) → RSt I0 I A0 A g ch N p st T → f_readLine_3 rec n x1 x2 x3 x4 I A = some o → RLo I0 A0 g ch N st nd rest p tip T o := by
  intro n
  induction n with
  | zero => intro x4 I A p tip T _ _ _ _ _ hf; cases hf
  | succ n ih =>
    intro x4 I A p tip T h4 htt hnt hb h hf
    have hf : f_readLine_3s rec (f_readLine_3 rec n) x1 x2 x3 x4 I A = some o := hf
    obtain ⟨rv, hpN, hg, tr, sp, ⟨hw, hl⟩, -⟩ := id h
    obtain ⟨⟨hI, hA⟩, ⟨hc, hN, hn⟩, hcb, h37, hp0⟩ := id rv
    have hz : ∀ i, N ≤ i → ch i = 0 := fun i hi => rv_out rv hi
    have h300 := hw.1
    obtain ⟨bb1, bb2⟩ := blk_b (p := p) hz
    -- a move
    have mv : ∀ (I1 : Nat → Int32) (A1 : Nat → Nat → Int32), RSt I0 I1 A0 A1 g ch N (blk ch p) st T → ¬ (rest = [] ∧ rsV ch (blk ch p) ≠ -1) → ¬ (tip ≠ nd ∧ rest ≠ [] ∧ ch (blk ch p) = 41) → f_readLine_38 rec (f_readLine_3 rec n) x1 x2 x3 x4 I1 A1 = some o → RLo I0 A0 g ch N st nd rest p tip T o := by
      intro I1 A1 hs1 q1 q3 hf
      have q2 : ¬ (tip ≠ nd ∧ ch (blk ch p) = 40) := fun e => by
        rcases hb with hb | ⟨hb1, hb2⟩
        · exact e.1 hb
        · rw [hb1] at e; exact hb2 e.2
      have step : ∀ k : Nat, mach ch N st (k + 1) p ((nd, tip) :: rest) T = match mvP ch N st T tip (blk ch p) with
          | none => none
          | some (e, T') => mach ch N st k e ((nd, tn T + 1) :: rest) T' := fun k => mc_m q1 q2 q3
      have no : ∀ {r : Int32} {I9 : Nat → Int32} {A9 : Nat → Nat → Int32}, o = (r, (I9, A9)) → 0 < r.toInt → RSn I0 I9 A0 A9 g → mvP ch N st T tip (blk ch p) = none → RLo I0 A0 g ch N st nd rest p tip T o := by
        intro r I9 A9 e hr hn9 hm
        rw [e]
        exact rlo_no hpN hr hn9 (fun k _ => by rw [step k, hm])
      unfold f_readLine_38 at hf
      obtain ⟨⟨r1, I2, A2⟩, h_r1, hf⟩ := m_clE hf
      dsimp only at hf
      obtain ⟨s2, rp2, mv2⟩ := rs_pl hs1 h1 h4 htt h_r1
      dsimp only at s2 rp2 mv2
      obtain ⟨⟨r2, I3, A3⟩, h_r2, hf⟩ := m_clE hf
      dsimp only at hf
      have g2 := v_readMoveNumber s2.1 s2.2.1 h_r2
      dsimp only at g2
      rw [rp2.2.2.2.2.2] at g2
      rcases m_ifE hf with ⟨c2, hf⟩ | ⟨c2, hf⟩
      · replace c2 := ti_leP (a := r2) (b := (0 : Int32)) c2 rfl rfl
        obtain ⟨q, a1, a2, a3, a4, a5⟩ : ∃ e, nuP ch (onb (posT st T tip)) (blk ch p) = some e ∧ RV I3 A3 ch N e ∧ A3 = A2 ∧ (∀ j, j ≠ 37 → I3 j = I2 j) ∧ e ≤ N := by
          rcases g2 with ⟨-, e, a1, a2, a3, a4, a5⟩ | ⟨a1, -⟩
          · exact ⟨e, a1, a2, a3, a4, a5⟩
          · have z0 : (0 : Int32).toInt = 0 := rfl
            omega
        rw [a3] at hf a2
        have s3 := rs_hi s2 a2 a5 (fun _ _ => rfl) (fun j hj => a4 j (n37 hj))
        have rp3 : RPp I3 A2 (posT st T tip) := ⟨a2.1, rp2.2.1, by rw [a4 25 (by decide)]; exact rp2.2.2.1, by rw [a4 26 (by decide)]; exact rp2.2.2.2.1, by rw [a4 27 (by decide)]; exact rp2.2.2.2.2.1, by rw [a4 29 (by decide)]; exact rp2.2.2.2.2.2⟩
        have mv3 : MVs I3 A2 (posT st T tip) := ⟨by rw [a4 33 (by decide)]; exact mv2.1, mv2.2⟩
        obtain ⟨⟨r3, I4, A4⟩, h_r3, hf⟩ := m_clE hf
        dsimp only at hf
        have g3 := v_readMove s3 h1 h4 htt rp3 mv3 h_r3
        unfold MRo at g3
        dsimp only at g3
        rcases m_ifE hf with ⟨c3, hf⟩ | ⟨c3, hf⟩
        · replace c3 := ti_leP (a := (0 : Int32)) (b := r3) c3 rfl rfl
          have z0 : (0 : Int32).toInt = 0 := rfl
          obtain ⟨b1, b2, b3, b4, b5, s4⟩ : isL (ch q) ∧ 0 ≤ sgV (posT st T tip) ch q (sgk ch q) ∧ chL (tM T) (sgV (posT st T tip) ch q (sgk ch q)) (tL T tip) = -1 ∧ tn T < 300 ∧ r3.toInt = ((tn T + 1 : Nat) : Int) ∧ RSt I0 I4 A0 A4 g ch N (sgk ch q) st (grT T tip (sgV (posT st T tip) ch q (sgk ch q))) := by
            rcases g3 with b | ⟨b, -⟩
            · exact b
            · omega
          have md := mv_6 (N := N) a1 b1 (by omega) b3 (by omega)
          have gq := nuP_b hz a1
          have gs := sgk_g hz b1
          obtain ⟨⟨r4, I5, A5⟩, h_r4, hf⟩ := m_clE hf
          dsimp only at hf
          have g4 := rs_mm s4 h1 b5 (Nat.le_refl _) (show (if tn T + 1 = tn T + 1 then [] else tK T (tn T + 1)) = [] from if_pos rfl) h_r4
          dsimp only at g4
          rcases m_ifE hf with ⟨c4, hf⟩ | ⟨c4, hf⟩
          · replace c4 := ti_leP (a := r4) (b := (0 : Int32)) c4 rfl rfl
            obtain ⟨e2, K, d1, s5⟩ : ∃ e K, mkP ch (sgk ch q) = some (e, K) ∧ RSt I0 I5 A0 A5 g ch N e st (mkT (grT T tip (sgV (posT st T tip) ch q (sgk ch q))) (tn T + 1) K) := by
              rcases g4 with ⟨e, K, d1, -, d3⟩ | ⟨-, d2, -⟩
              · exact ⟨e, K, d1, d3⟩
              · omega
            have ge := mkP_b hz d1
            obtain ⟨⟨r5, I6, A6⟩, h_r5, hf⟩ := m_clE hf
            dsimp only at hf
            have g5 := rs_rk s5 h1 b5 (Nat.le_refl _) h_r5
            dsimp only at g5
            have eR : tR (mkT (grT T tip (sgV (posT st T tip) ch q (sgk ch q))) (tn T + 1) K) (tn T + 1) = [] := if_pos rfl
            rw [eR] at g5
            unfold f_readLine_111 at hf
            rcases g5 with ⟨e3, w, f1, f2, s6⟩ | ⟨f1, f2, f3⟩
            · have ge3 := rmkP_b hz _ _ _ _ _ f1
              have ge4 := (blk_b (p := e2) hz).2
              have fe3 := rmkP_f hz _ _ _ _ _ (blk_i hz) f1
              have mvv : mvP ch N st T tip (blk ch p) = some (e3, rkT (mkT (grT T tip (sgV (posT st T tip) ch q (sgk ch q))) (tn T + 1) K) (tn T + 1) w) := by
                rw [md, d1]
                show (match rmkP ch N 2001 (blk ch e2) [] with | none => none | some (e3, w) => some (e3, rkT (mkT (grT T tip (sgV (posT st T tip) ch q (sgk ch q))) (tn T + 1) K) (tn T + 1) w)) = _
                rw [f1]
              have key := rl_113 (g := g) (nd := nd) (tip := tn T + 1) (bf := tip) (n3 := n) (x2 := x2) (x7 := x4) (st := st) (N := N) (ch := ch) (I0 := I0) (A0 := A0) h1 h3 hr6 b5 h4 (show tn T + 1 ≠ nd by omega) hrec (fun I' A' p' T' t1 t2 t3 t4 hf' => ih r3 I' A' p' (tn T + 1) T' b5 t1 (by omega) (Or.inr ⟨t2, t3⟩) t4 hf') mFuel r5 I6 A6 e3 (rkT (mkT (grT T tip (sgV (posT st T tip) ch q (sgk ch q))) (tn T + 1) K) (tn T + 1) w) f2 (Nat.le_refl _) (by show ((if tn T + 1 = tn T + 1 then (tip : Int) else tP T (tn T + 1))).toNat = tip; rw [if_pos rfl]; rfl) (by show tip ≤ tn T + 1; omega) fe3 s6 hf
              refine rlo_up key (ext_t (T1 := grT T tip (sgV (posT st T tip) ch q (sgk ch q))) ext_gr ⟨Nat.le_refl _, fun _ _ => rfl⟩) (by omega) hpN (fun k hk => ⟨k, by omega, ?_⟩)
              rw [step k, mvv]
            · have e9 := rl_113f f2 mFuel hf
              refine no e9 f2 f3 ?_
              rw [md, d1]
              show (match rmkP ch N 2001 (blk ch e2) [] with | none => none | some (e3, w) => some (e3, rkT (mkT (grT T tip (sgV (posT st T tip) ch q (sgk ch q))) (tn T + 1) K) (tn T + 1) w)) = none
              rw [f1]
          · replace c4 := ti_leN (a := r4) (b := (0 : Int32)) c4 rfl rfl
            unfold f_readLine_111 at hf
            have e9 := rl_113f (by omega) mFuel hf
            rcases g4 with ⟨e, K, -, d2, -⟩ | ⟨d1, d2, d3⟩
            · omega
            · refine no e9 d2 d3 ?_
              rw [md, d1]
        · replace c3 := ti_leN (a := (0 : Int32)) (b := r3) c3 rfl rfl
          have z0 : (0 : Int32).toInt = 0 := rfl
          rcases g3 with ⟨-, -, -, -, b5, -⟩ | ⟨b1, b2, b3, b4⟩
          · omega
          · obtain ⟨v6, e6, hf⟩ := m_bndE hf
            have t6 : v6.toInt = -r3.toInt := ti_neg e6 rfl (by omega)
            cases hf
            refine no rfl (by omega) b3 ?_
            rcases b4 with b4 | b4 | b4 | b4
            · exact mv_2 a1 b4
            · exact mv_3 a1 b4
            · exact mv_4 a1 b4
            · exact mv_5 a1 b4
      · replace c2 := ti_leN (a := r2) (b := (0 : Int32)) c2 rfl rfl
        have z0 : (0 : Int32).toInt = 0 := rfl
        cases hf
        rcases g2 with ⟨a1, -⟩ | ⟨a1, a2, a3, a4⟩
        · omega
        · refine no rfl (by omega) ?_ (mv_1 a2)
          rw [a3]
          exact rn_hi (rs_n s2) (fun _ _ => rfl) (fun j hj => a4 j (n37 hj))
    unfold f_readLine_3s at hf
    obtain ⟨⟨r1, Ic1, Ac1⟩, h_r1, hf⟩ := m_clE hf
    dsimp only at hf
    obtain ⟨b1, b2, b3, b4, b5⟩ := rv_bl rv h_r1
    dsimp only at b2 b3 b4
    rw [b3] at b2 hf
    have s1 := rs_hi h b2 (by omega) (fun _ _ => rfl) (fun j hj => b4 j (n37 hj))
    rcases m_ifE hf with ⟨c1, hf⟩ | ⟨c1, hf⟩
    · skip
      replace c1 := ti_eqP (a := x3) (b := (0 : Int32)) c1 rfl (show (0 : Int32).toInt = 0 from rfl)
      obtain ⟨r3, h_r3, hf⟩ := m_clR hf (fun _ h => rro_resultHere h)
      obtain ⟨-, q3⟩ := v_resultHere b2.2.1.1 b2.2.1.2.1 (by omega) b2.2.2.2.1 b2.2.2.2.2 h_r3
      dsimp only at q3
      have r0 : rest = [] := List.eq_nil_of_length_eq_zero (by omega)
      rcases m_ifE hf with ⟨c2, hf⟩ | ⟨c2, hf⟩
      · skip
        replace c2 := ti_ltP (a := r3) (b := (0 : Int32)) c2 rfl (show (0 : Int32).toInt = 0 from rfl)
        have rb := rsV_b (ch := ch) (p := blk ch p)
        exact mv Ic1 A s1 (fun e => e.2 (by omega)) (fun e => e.2.1 r0) hf
      · skip
        replace c2 := ti_ltN (a := r3) (b := (0 : Int32)) c2 rfl (show (0 : Int32).toInt = 0 from rfl)
        unfold f_readLine_36 at hf
        cases hf
        refine Or.inr ⟨rfl, blk ch p, T, s1, ext_0, Or.inl ⟨r0, by omega, fun k hk => ?_⟩⟩
        obtain ⟨k', rfl⟩ : ∃ k', k = k' + 1 := ⟨k - 1, by omega⟩
        exact mc_r r0 (by omega)
    · skip
      replace c1 := ti_eqN (a := x3) (b := (0 : Int32)) c1 rfl (show (0 : Int32).toInt = 0 from rfl)
      obtain ⟨r2, h_r2, hf⟩ := m_clR hf (fun _ h => rro_look h)
      have p_r2 := pc_look h_r2
      dsimp only at p_r2
      have q2 := rv_lk b2 h_r2
      dsimp only at q2
      clear p_r2
      have rn : rest ≠ [] := fun e => by
        rw [e] at h3
        have : (([] : List (Nat × Nat)).length : Int) = 0 := rfl
        omega
      rcases m_ifE hf with ⟨c3, hf⟩ | ⟨c3, hf⟩
      · skip
        replace c3 := ti_eqP (a := r2) (b := (41 : Int32)) c3 rfl (show (41 : Int32).toInt = 41 from rfl)
        rcases m_ifE hf with ⟨c4, hf⟩ | ⟨c4, hf⟩
        · skip
          replace c4 := ti_eqP (a := x4) (b := x2) c4 rfl rfl
          exact mv Ic1 A s1 (fun e => rn e.1) (fun e => e.1 (by omega)) hf
        · skip
          replace c4 := ti_eqN (a := x4) (b := x2) c4 rfl rfl
          unfold f_readLine_36 at hf
          cases hf
          have tne : tip ≠ nd := by omega
          have bi : blk ch (blk ch p) = blk ch p := blk_i hz
          refine Or.inr ⟨rfl, blk ch p, T, s1, ext_0, Or.inr ⟨rn, tip, tne, htt, by omega, bb2, bi, fun k hk => ?_⟩⟩
          obtain ⟨k', rfl⟩ : ∃ k', k = k' + 1 := ⟨k - 1, by omega⟩
          by_cases e : blk ch p = p
          · exact ⟨k' + 1, by rw [e]; omega, by rw [e]⟩
          · refine ⟨k' + 1, by omega, ?_⟩
            have e41 : ch (blk ch p) = 41 := by omega
            rw [mc_c (fun q => rn q.1) ⟨tne, rn, e41⟩, mc_c (p := blk ch p) (fun q => rn q.1) ⟨tne, rn, by rw [bi]; exact e41⟩, bi]
      · skip
        replace c3 := ti_eqN (a := r2) (b := (41 : Int32)) c3 rfl (show (41 : Int32).toInt = 41 from rfl)
        exact mv Ic1 A s1 (fun e => rn e.1) (fun e => by omega) hf
/-- a line of the reference -/
theorem rl_all (h1 : x1.toInt = (g : Int)) : ∀ (m : Nat) (y2 y3 : Int32) (I : Nat → Int32) (A : Nat → Nat → Int32) (n2 : Nat) (rest2 : List (Nat × Nat)) (p : Int) (T : TRa) (o : Int32 × MS), y2.toInt = (n2 : Int) → n2 ≤ tn T → y3.toInt = (rest2.length : Int) → rest2.length ≤ 6 → RSt I0 I A0 A g ch N p st T → fr_readLine m x1 y2 y3 I A = some o → RLo I0 A0 g ch N st n2 rest2 p n2 T o := by
  intro m
  induction m with
  | zero => intro y2 y3 I A n2 rest2 p T o _ _ _ _ _ hf; cases hf
  | succ m ih =>
    intro y2 y3 I A n2 rest2 p T o e2 e3 e4 e5 h hf
    have hf : f_readLine_3 (fr_readLine m) mFuel x1 y2 y3 y2 I A = some o := hf
    exact rl_3 h1 e2 e4 e5 ih mFuel y2 I A p n2 T e2 e3 (Nat.le_refl _) (Or.inl rfl) h hf
end RL3
end
section
noncomputable def PFq (x bb : Nat) (S S' : ZS) : Prop := zP S 0 bb = some (bb + 1) → PFr S S' x bb
section PFG
variable {x bb : Nat}
theorem pfq_0 {S : ZS} : PFq x bb S S := fun _ => pfr_0
theorem pfq_t {S S1 S2 : ZS} (h : PFq x bb S S1) (g : PFq x bb S1 S2) : PFq x bb S S2 := fun hp => pfr_t (h hp) (g (by rw [(h hp).2.1]; exact hp))
theorem pfq_r {S S1 S2 : ZS} (h : PFq x bb S S1) (g : S2 = S1) : PFq x bb S S2 := by rw [g]; exact h
theorem pfq_x {S S' : ZS} {j a : Nat} {v : Int32} (e : S' = zsI S j a v) (h : a = x) : PFq x bb S S' := fun _ => by subst h; exact pfr_I e
theorem pfq_bb {S S' : ZS} {j a : Nat} {v : Int32} (e : S' = zsI S j a v) (h : a = bb) : PFq x bb S S' := fun _ => by
  subst h
  subst e
  exact ⟨⟨rfl, rfl, rfl, rfl, rfl⟩, rfl, fun i a _ hb => zI_b hb, fun _ _ => rfl, rfl⟩
theorem pfq_A {S S' : ZS} {a b i : Nat} {v : Int32} (e : S' = zsA S b i v) (h1 : zP S 0 a = some b) (h : a = bb) : PFq x bb S S' := fun hp => by
  subst h
  rw [hp] at h1
  cases h1
  subst e
  exact ⟨⟨rfl, rfl, rfl, rfl, rfl⟩, rfl, fun _ _ _ _ => rfl, fun c hc => by show va_up (zA S) _ _ c = _; exact va_up_ne _ _ hc, rfl⟩

theorem pf_X0_wipe_2s {o : Int32 × ZS} {self2 : Nat → Int32 → ZS → Option (Int32 × ZS)} {x0 : Nat} {x1 : Int32} {S : ZS} (hself2 : ∀ (z0 : Nat) (z1 : Int32) (S : ZS) (o : Int32 × ZS), z0 = bb → self2 z0 z1 S = some o → PFq x bb S o.2) (h_x0 : x0 = bb) (hf : f_X0_wipe_2s self2 x0 x1 S = some o) : PFq x bb S o.2 := by
  have h_S : PFq x bb S S := pfq_0
  unfold f_X0_wipe_2s at hf
  rcases m_ifE hf with ⟨-, hf⟩ | ⟨-, hf⟩
  ·
    obtain ⟨-, hf⟩ := m_chkE hf
    obtain ⟨S1, e_S1, hf⟩ := m_bndE hf
    have h_S1 := pfq_t h_S (pfq_bb e_S1 (h_x0))
    obtain ⟨-, hf⟩ := m_chkE hf
    obtain ⟨S2, e_S2, hf⟩ := m_bndE hf
    have h_S2 := pfq_t h_S1 (pfq_bb e_S2 (h_x0))
    obtain ⟨-, hf⟩ := m_chkE hf
    obtain ⟨S3, e_S3, hf⟩ := m_bndE hf
    have h_S3 := pfq_t h_S2 (pfq_bb e_S3 (h_x0))
    obtain ⟨-, hf⟩ := m_chkE hf
    obtain ⟨S4, e_S4, hf⟩ := m_bndE hf
    have h_S4 := pfq_t h_S3 (pfq_bb e_S4 (h_x0))
    cases hf
    exact h_S4
  ·
    obtain ⟨-, hf⟩ := m_chkE hf
    obtain ⟨b5, h_b5, hf⟩ := m_calE hf
    obtain ⟨-, hf⟩ := m_chkE hf
    obtain ⟨-, hf⟩ := m_chkE hf
    obtain ⟨S6, e_S6, hf⟩ := m_bndE hf
    have h_S6 := pfq_t h_S (pfq_A e_S6 h_b5 h_x0)
    obtain ⟨v7, -, hf⟩ := m_bndE hf
    exact pfq_t h_S6 (hself2 _ _ _ _ h_x0 hf)
theorem pf_X0_wipe_2 (n : Nat) : ∀ (y0 : Nat) (y1 : Int32) (S : ZS) (o : Int32 × ZS), y0 = bb → f_X0_wipe_2 n y0 y1 S = some o → PFq x bb S o.2 := by
  induction n with
  | zero => intro y0 y1 S o r0 hf; cases hf
  | succ n ih => intro y0 y1 S o r0 hf; exact pf_X0_wipe_2s ih r0 hf
theorem pf_X0_wipe_0 {o : Int32 × ZS} {x0 : Nat} {S : ZS}  (h_x0 : x0 = bb) (hf : f_X0_wipe_0 x0 S = some o) : PFq x bb S o.2 := by
  have h_S : PFq x bb S S := pfq_0
  unfold f_X0_wipe_0 at hf
  exact pfq_t h_S (pf_X0_wipe_2 _ _ _ _ _ h_x0 hf)
theorem pf_X0_wipe {o : Int32 × ZS} {x0 : Nat} {S : ZS}  (h_x0 : x0 = bb) (hf : f_X0_wipe x0 S = some o) : PFq x bb S o.2 := by
  have h_S : PFq x bb S S := pfq_0
  unfold f_X0_wipe at hf
  exact pfq_t h_S (pf_X0_wipe_0  h_x0 hf)
theorem pf_X0_put_32 {o : Int32 × ZS} {S : ZS}   (hf : f_X0_put_32 S = some o) : PFq x bb S o.2 := by
  have h_S : PFq x bb S S := pfq_0
  unfold f_X0_put_32 at hf
  cases hf
  exact h_S
theorem pf_X0_put_0 {o : Int32 × ZS} {x0 : Nat} {x1 : Int32} {x2 : Int32} {S : ZS}  (h_x0 : x0 = bb) (hf : f_X0_put_0 x0 x1 x2 S = some o) : PFq x bb S o.2 := by
  have h_S : PFq x bb S S := pfq_0
  unfold f_X0_put_0 at hf
  obtain ⟨-, hf⟩ := m_chkE hf
  obtain ⟨b1, h_b1, hf⟩ := m_calE hf
  obtain ⟨-, hf⟩ := m_chkE hf
  obtain ⟨-, hf⟩ := m_chkE hf
  obtain ⟨S2, e_S2, hf⟩ := m_bndE hf
  have h_S2 := pfq_t h_S (pfq_A e_S2 h_b1 h_x0)
  rcases m_ifE hf with ⟨-, hf⟩ | ⟨-, hf⟩
  ·
    obtain ⟨-, hf⟩ := m_chkE hf
    obtain ⟨S4, e_S4, hf⟩ := m_bndE hf
    have h_S4 := pfq_t h_S2 (pfq_bb e_S4 (h_x0))
    exact pfq_t h_S4 (pf_X0_put_32   hf)
  ·
    rcases m_ifE hf with ⟨-, hf⟩ | ⟨-, hf⟩
    ·
      obtain ⟨-, hf⟩ := m_chkE hf
      obtain ⟨S3, e_S3, hf⟩ := m_bndE hf
      have h_S3 := pfq_t h_S2 (pfq_bb e_S3 (h_x0))
      exact pfq_t h_S3 (pf_X0_put_32   hf)
    ·
      exact pfq_t h_S2 (pf_X0_put_32   hf)
theorem pf_X0_put {o : Int32 × ZS} {x0 : Nat} {x1 : Int32} {x2 : Int32} {S : ZS}  (h_x0 : x0 = bb) (hf : f_X0_put x0 x1 x2 S = some o) : PFq x bb S o.2 := by
  have h_S : PFq x bb S S := pfq_0
  unfold f_X0_put at hf
  exact pfq_t h_S (pf_X0_put_0  h_x0 hf)
theorem pf_X5_skip_0 {o : Int32 × ZS} {x0 : Nat} {x1 : Int32} {S : ZS}  (h_x0 : x0 = x) (hf : f_X5_skip_0 x0 x1 S = some o) : PFq x bb S o.2 := by
  have h_S : PFq x bb S S := pfq_0
  unfold f_X5_skip_0 at hf
  obtain ⟨-, hf⟩ := m_chkE hf
  obtain ⟨b1, h_b1, hf⟩ := m_calE hf
  obtain ⟨-, hf⟩ := m_chkE hf
  obtain ⟨-, hf⟩ := m_chkE hf
  obtain ⟨o2, ho, hf⟩ := m_calE hf
  have h_o2 := pfq_r h_S (ro_X6_at ho)
  clear ho
  rcases m_ifE hf with ⟨-, hf⟩ | ⟨-, hf⟩
  ·
    obtain ⟨-, hf⟩ := m_chkE hf
    obtain ⟨v3, -, hf⟩ := m_bndE hf
    obtain ⟨-, hf⟩ := m_chkE hf
    obtain ⟨S4, e_S4, hf⟩ := m_bndE hf
    have h_S4 := pfq_t h_o2 (pfq_x e_S4 (h_x0))
    obtain ⟨-, hf⟩ := m_chkE hf
    cases hf
    exact h_S4
  ·
    obtain ⟨-, hf⟩ := m_chkE hf
    cases hf
    exact h_o2
theorem pf_X5_skip {o : Int32 × ZS} {x0 : Nat} {x1 : Int32} {S : ZS}  (h_x0 : x0 = x) (hf : f_X5_skip x0 x1 S = some o) : PFq x bb S o.2 := by
  have h_S : PFq x bb S S := pfq_0
  unfold f_X5_skip at hf
  exact pfq_t h_S (pf_X5_skip_0  h_x0 hf)
theorem pf_X5_readRank_136 {o : Int32 × ZS} {t0 : Int32} {S : ZS}   (hf : f_X5_readRank_136 t0 S = some o) : PFq x bb S o.2 := by
  have h_S : PFq x bb S S := pfq_0
  unfold f_X5_readRank_136 at hf
  obtain ⟨-, hf⟩ := m_chkE hf
  cases hf
  exact h_S
theorem pf_X5_readRank_105 {o : Int32 × ZS} {self5 : Nat → Nat → Int32 → Int32 → Int32 → ZS → Option (Int32 × ZS)} {x0 : Nat} {x1 : Nat} {x2 : Int32} {x6 : Int32} {t0 : Int32} {t1 : Int32} {S : ZS} (hself5 : ∀ (z0 : Nat) (z1 : Nat) (z2 : Int32) (z3 : Int32) (z4 : Int32) (S : ZS) (o : Int32 × ZS), z0 = x → z1 = bb → self5 z0 z1 z2 z3 z4 S = some o → PFq x bb S o.2) (h_x0 : x0 = x) (h_x1 : x1 = bb) (hf : f_X5_readRank_105 self5 x0 x1 x2 x6 t0 t1 S = some o) : PFq x bb S o.2 := by
  have h_S : PFq x bb S S := pfq_0
  unfold f_X5_readRank_105 at hf
  obtain ⟨v1, -, hf⟩ := m_bndE hf
  obtain ⟨-, hf⟩ := m_chkE hf
  obtain ⟨v2, -, hf⟩ := m_bndE hf
  obtain ⟨-, hf⟩ := m_chkE hf
  obtain ⟨S3, e_S3, hf⟩ := m_bndE hf
  have h_S3 := pfq_t h_S (pfq_x e_S3 (h_x0))
  exact pfq_t h_S3 (hself5 _ _ _ _ _ _ _ h_x0 h_x1 hf)
theorem pf_X5_readRank_89 {o : Int32 × ZS} {self5 : Nat → Nat → Int32 → Int32 → Int32 → ZS → Option (Int32 × ZS)} {x0 : Nat} {x1 : Nat} {x2 : Int32} {x4 : Int32} {x5 : Int32} {x6 : Int32} {S : ZS} (hself5 : ∀ (z0 : Nat) (z1 : Nat) (z2 : Int32) (z3 : Int32) (z4 : Int32) (S : ZS) (o : Int32 × ZS), z0 = x → z1 = bb → self5 z0 z1 z2 z3 z4 S = some o → PFq x bb S o.2) (h_x0 : x0 = x) (h_x1 : x1 = bb) (hf : f_X5_readRank_89 self5 x0 x1 x2 x4 x5 x6 S = some o) : PFq x bb S o.2 := by
  have h_S : PFq x bb S S := pfq_0
  unfold f_X5_readRank_89 at hf
  rcases m_ifE hf with ⟨-, hf⟩ | ⟨-, hf⟩
  ·
    exact pfq_t h_S (pf_X5_readRank_105 hself5 h_x0 h_x1 hf)
  ·
    obtain ⟨v1, -, hf⟩ := m_bndE hf
    exact pfq_t h_S (pf_X5_readRank_105 hself5 h_x0 h_x1 hf)
theorem pf_X5_readRank_74 {o : Int32 × ZS} {self5 : Nat → Nat → Int32 → Int32 → Int32 → ZS → Option (Int32 × ZS)} {x0 : Nat} {x1 : Nat} {x2 : Int32} {x4 : Int32} {x5 : Int32} {x6 : Int32} {x7 : Int32} {S : ZS} (hself5 : ∀ (z0 : Nat) (z1 : Nat) (z2 : Int32) (z3 : Int32) (z4 : Int32) (S : ZS) (o : Int32 × ZS), z0 = x → z1 = bb → self5 z0 z1 z2 z3 z4 S = some o → PFq x bb S o.2) (h_x0 : x0 = x) (h_x1 : x1 = bb) (hf : f_X5_readRank_74 self5 x0 x1 x2 x4 x5 x6 x7 S = some o) : PFq x bb S o.2 := by
  have h_S : PFq x bb S S := pfq_0
  unfold f_X5_readRank_74 at hf
  rcases m_ifE hf with ⟨-, hf⟩ | ⟨-, hf⟩
  ·
    obtain ⟨v1, -, hf⟩ := m_bndE hf
    obtain ⟨-, hf⟩ := m_chkE hf
    obtain ⟨o2, ho, hf⟩ := m_calE hf
    have h_o2 := pfq_t h_S (pf_X0_put h_x1 ho)
    clear ho
    exact pfq_t h_o2 (pf_X5_readRank_89 hself5 h_x0 h_x1 hf)
  ·
    exact pfq_t h_S (pf_X5_readRank_89 hself5 h_x0 h_x1 hf)
theorem pf_X5_readRank_72 {o : Int32 × ZS} {S : ZS}   (hf : f_X5_readRank_72 S = some o) : PFq x bb S o.2 := by
  have h_S : PFq x bb S S := pfq_0
  unfold f_X5_readRank_72 at hf
  obtain ⟨-, hf⟩ := m_chkE hf
  cases hf
  exact h_S
theorem pf_X5_readRank_53 {o : Int32 × ZS} {self5 : Nat → Nat → Int32 → Int32 → Int32 → ZS → Option (Int32 × ZS)} {x0 : Nat} {x1 : Nat} {x2 : Int32} {x3 : Int32} {x4 : Int32} {x5 : Int32} {x6 : Int32} {t0 : Int32} {S : ZS} (hself5 : ∀ (z0 : Nat) (z1 : Nat) (z2 : Int32) (z3 : Int32) (z4 : Int32) (S : ZS) (o : Int32 × ZS), z0 = x → z1 = bb → self5 z0 z1 z2 z3 z4 S = some o → PFq x bb S o.2) (h_x0 : x0 = x) (h_x1 : x1 = bb) (hf : f_X5_readRank_53 self5 x0 x1 x2 x3 x4 x5 x6 t0 S = some o) : PFq x bb S o.2 := by
  have h_S : PFq x bb S S := pfq_0
  unfold f_X5_readRank_53 at hf
  rcases m_ifE hf with ⟨-, hf⟩ | ⟨-, hf⟩
  ·
    rcases m_ifE hf with ⟨-, hf⟩ | ⟨-, hf⟩
    ·
      exact pfq_t h_S (pf_X5_readRank_72   hf)
    ·
      exact pfq_t h_S (pf_X5_readRank_74 hself5 h_x0 h_x1 hf)
  ·
    rcases m_ifE hf with ⟨-, hf⟩ | ⟨-, hf⟩
    ·
      exact pfq_t h_S (pf_X5_readRank_74 hself5 h_x0 h_x1 hf)
    ·
      exact pfq_t h_S (pf_X5_readRank_72   hf)
theorem pf_X5_readRank_5s {o : Int32 × ZS} {self5 : Nat → Nat → Int32 → Int32 → Int32 → ZS → Option (Int32 × ZS)} {x0 : Nat} {x1 : Nat} {x2 : Int32} {x3 : Int32} {x4 : Int32} {S : ZS} (hself5 : ∀ (z0 : Nat) (z1 : Nat) (z2 : Int32) (z3 : Int32) (z4 : Int32) (S : ZS) (o : Int32 × ZS), z0 = x → z1 = bb → self5 z0 z1 z2 z3 z4 S = some o → PFq x bb S o.2) (h_x0 : x0 = x) (h_x1 : x1 = bb) (hf : f_X5_readRank_5s self5 x0 x1 x2 x3 x4 S = some o) : PFq x bb S o.2 := by
  have h_S : PFq x bb S S := pfq_0
  unfold f_X5_readRank_5s at hf
  rcases m_ifE hf with ⟨-, hf⟩ | ⟨-, hf⟩
  ·
    rcases m_ifE hf with ⟨-, hf⟩ | ⟨-, hf⟩
    ·
      exact pfq_t h_S (pf_X5_readRank_136   hf)
    ·
      exact pfq_t h_S (pf_X5_readRank_136   hf)
  ·
    obtain ⟨-, hf⟩ := m_chkE hf
    obtain ⟨b1, h_b1, hf⟩ := m_calE hf
    obtain ⟨-, hf⟩ := m_chkE hf
    obtain ⟨-, hf⟩ := m_chkE hf
    obtain ⟨o2, ho, hf⟩ := m_calE hf
    have h_o2 := pfq_r h_S (ro_X6_at ho)
    clear ho
    obtain ⟨o3, ho, hf⟩ := m_calE hf
    have h_o3 := pfq_r h_o2 (ro_X11_isRank ho)
    clear ho
    obtain ⟨o4, ho, hf⟩ := m_calE hf
    have h_o4 := pfq_r h_o3 (ro_X11_isLetter ho)
    clear ho
    rcases m_ifE hf with ⟨-, hf⟩ | ⟨-, hf⟩
    ·
      exact pfq_t h_o4 (pf_X5_readRank_53 hself5 h_x0 h_x1 hf)
    ·
      obtain ⟨-, hf⟩ := m_chkE hf
      obtain ⟨o5, ho, hf⟩ := m_calE hf
      have h_o5 := pfq_r h_o4 (ro_J0_indexOf_0f7a4 ho)
      clear ho
      obtain ⟨v6, -, hf⟩ := m_bndE hf
      exact pfq_t h_o5 (pf_X5_readRank_53 hself5 h_x0 h_x1 hf)
theorem pf_X5_readRank_5 (n : Nat) : ∀ (y0 : Nat) (y1 : Nat) (y2 : Int32) (y3 : Int32) (y4 : Int32) (S : ZS) (o : Int32 × ZS), y0 = x → y1 = bb → f_X5_readRank_5 n y0 y1 y2 y3 y4 S = some o → PFq x bb S o.2 := by
  induction n with
  | zero => intro y0 y1 y2 y3 y4 S o r0 r1 hf; cases hf
  | succ n ih => intro y0 y1 y2 y3 y4 S o r0 r1 hf; exact pf_X5_readRank_5s ih r0 r1 hf
theorem pf_X5_readRank_0 {o : Int32 × ZS} {x0 : Nat} {x1 : Nat} {x2 : Int32} {S : ZS}  (h_x0 : x0 = x) (h_x1 : x1 = bb) (hf : f_X5_readRank_0 x0 x1 x2 S = some o) : PFq x bb S o.2 := by
  have h_S : PFq x bb S S := pfq_0
  unfold f_X5_readRank_0 at hf
  exact pfq_t h_S (pf_X5_readRank_5 _ _ _ _ _ _ _ _ h_x0 h_x1 hf)
theorem pf_X5_readRank {o : Int32 × ZS} {x0 : Nat} {x1 : Nat} {x2 : Int32} {S : ZS}  (h_x0 : x0 = x) (h_x1 : x1 = bb) (hf : f_X5_readRank x0 x1 x2 S = some o) : PFq x bb S o.2 := by
  have h_S : PFq x bb S S := pfq_0
  unfold f_X5_readRank at hf
  exact pfq_t h_S (pf_X5_readRank_0  h_x0 h_x1 hf)
theorem pf_X5_readMen_34 {o : Int32 × ZS} {S : ZS}   (hf : f_X5_readMen_34 S = some o) : PFq x bb S o.2 := by
  have h_S : PFq x bb S S := pfq_0
  unfold f_X5_readMen_34 at hf
  obtain ⟨-, hf⟩ := m_chkE hf
  cases hf
  exact h_S
theorem pf_X5_readMen_22 {o : Int32 × ZS} {self3 : Nat → Nat → Int32 → ZS → Option (Int32 × ZS)} {x0 : Nat} {x1 : Nat} {x2 : Int32} {S : ZS} (hself3 : ∀ (z0 : Nat) (z1 : Nat) (z2 : Int32) (S : ZS) (o : Int32 × ZS), z0 = x → z1 = bb → self3 z0 z1 z2 S = some o → PFq x bb S o.2) (h_x0 : x0 = x) (h_x1 : x1 = bb) (hf : f_X5_readMen_22 self3 x0 x1 x2 S = some o) : PFq x bb S o.2 := by
  have h_S : PFq x bb S S := pfq_0
  unfold f_X5_readMen_22 at hf
  obtain ⟨v1, -, hf⟩ := m_bndE hf
  obtain ⟨-, hf⟩ := m_chkE hf
  obtain ⟨o2, ho, hf⟩ := m_calE hf
  have h_o2 := pfq_t h_S (pf_X5_readRank h_x0 h_x1 ho)
  clear ho
  rcases m_ifE hf with ⟨-, hf⟩ | ⟨-, hf⟩
  ·
    exact pfq_t h_o2 (pf_X5_readMen_34   hf)
  ·
    obtain ⟨v3, -, hf⟩ := m_bndE hf
    exact pfq_t h_o2 (hself3 _ _ _ _ _ h_x0 h_x1 hf)
theorem pf_X5_readMen_3s {o : Int32 × ZS} {self3 : Nat → Nat → Int32 → ZS → Option (Int32 × ZS)} {x0 : Nat} {x1 : Nat} {x2 : Int32} {S : ZS} (hself3 : ∀ (z0 : Nat) (z1 : Nat) (z2 : Int32) (S : ZS) (o : Int32 × ZS), z0 = x → z1 = bb → self3 z0 z1 z2 S = some o → PFq x bb S o.2) (h_x0 : x0 = x) (h_x1 : x1 = bb) (hf : f_X5_readMen_3s self3 x0 x1 x2 S = some o) : PFq x bb S o.2 := by
  have h_S : PFq x bb S S := pfq_0
  unfold f_X5_readMen_3s at hf
  rcases m_ifE hf with ⟨-, hf⟩ | ⟨-, hf⟩
  ·
    obtain ⟨-, hf⟩ := m_chkE hf
    cases hf
    exact h_S
  ·
    rcases m_ifE hf with ⟨-, hf⟩ | ⟨-, hf⟩
    ·
      exact pfq_t h_S (pf_X5_readMen_22 hself3 h_x0 h_x1 hf)
    ·
      obtain ⟨-, hf⟩ := m_chkE hf
      obtain ⟨o1, ho, hf⟩ := m_calE hf
      have h_o1 := pfq_t h_S (pf_X5_skip h_x0 ho)
      clear ho
      rcases m_ifE hf with ⟨-, hf⟩ | ⟨-, hf⟩
      ·
        exact pfq_t h_o1 (pf_X5_readMen_34   hf)
      ·
        exact pfq_t h_o1 (pf_X5_readMen_22 hself3 h_x0 h_x1 hf)
theorem pf_X5_readMen_3 (n : Nat) : ∀ (y0 : Nat) (y1 : Nat) (y2 : Int32) (S : ZS) (o : Int32 × ZS), y0 = x → y1 = bb → f_X5_readMen_3 n y0 y1 y2 S = some o → PFq x bb S o.2 := by
  induction n with
  | zero => intro y0 y1 y2 S o r0 r1 hf; cases hf
  | succ n ih => intro y0 y1 y2 S o r0 r1 hf; exact pf_X5_readMen_3s ih r0 r1 hf
theorem pf_X5_readMen_0 {o : Int32 × ZS} {x0 : Nat} {x1 : Nat} {S : ZS}  (h_x0 : x0 = x) (h_x1 : x1 = bb) (hf : f_X5_readMen_0 x0 x1 S = some o) : PFq x bb S o.2 := by
  have h_S : PFq x bb S S := pfq_0
  unfold f_X5_readMen_0 at hf
  exact pfq_t h_S (pf_X5_readMen_3 _ _ _ _ _ _ h_x0 h_x1 hf)
theorem pf_X5_readMen {o : Int32 × ZS} {x0 : Nat} {x1 : Nat} {S : ZS}  (h_x0 : x0 = x) (h_x1 : x1 = bb) (hf : f_X5_readMen x0 x1 S = some o) : PFq x bb S o.2 := by
  have h_S : PFq x bb S S := pfq_0
  unfold f_X5_readMen at hf
  exact pfq_t h_S (pf_X5_readMen_0  h_x0 h_x1 hf)
theorem pf_X5_readSide_48 {o : Int32 × ZS} {t0 : Int32} {S : ZS}   (hf : f_X5_readSide_48 t0 S = some o) : PFq x bb S o.2 := by
  have h_S : PFq x bb S S := pfq_0
  unfold f_X5_readSide_48 at hf
  obtain ⟨-, hf⟩ := m_chkE hf
  cases hf
  exact h_S
theorem pf_X5_readSide_43 {o : Int32 × ZS} {S : ZS}   (hf : f_X5_readSide_43 S = some o) : PFq x bb S o.2 := by
  have h_S : PFq x bb S S := pfq_0
  unfold f_X5_readSide_43 at hf
  exact pfq_t h_S (pf_X5_readSide_48   hf)
theorem pf_X5_readSide_22 {o : Int32 × ZS} {x0 : Nat} {t0 : Int32} {t1 : Nat} {S : ZS}  (h_x0 : x0 = x) (h_t1 : t1 = bb) (hf : f_X5_readSide_22 x0 t0 t1 S = some o) : PFq x bb S o.2 := by
  have h_S : PFq x bb S S := pfq_0
  unfold f_X5_readSide_22 at hf
  obtain ⟨-, hf⟩ := m_chkE hf
  obtain ⟨S1, e_S1, hf⟩ := m_bndE hf
  have h_S1 := pfq_t h_S (pfq_bb e_S1 (h_t1))
  obtain ⟨-, hf⟩ := m_chkE hf
  obtain ⟨o2, ho, hf⟩ := m_calE hf
  have h_o2 := pfq_t h_S1 (pf_X5_skip h_x0 ho)
  clear ho
  rcases m_ifE hf with ⟨-, hf⟩ | ⟨-, hf⟩
  ·
    obtain ⟨-, hf⟩ := m_chkE hf
    obtain ⟨o3, ho, hf⟩ := m_calE hf
    have h_o3 := pfq_t h_o2 (pf_X5_skip h_x0 ho)
    clear ho
    rcases m_ifE hf with ⟨-, hf⟩ | ⟨-, hf⟩
    ·
      exact pfq_t h_o3 (pf_X5_readSide_48   hf)
    ·
      exact pfq_t h_o3 (pf_X5_readSide_43   hf)
  ·
    exact pfq_t h_o2 (pf_X5_readSide_43   hf)
theorem pf_X5_readSide_0 {o : Int32 × ZS} {x0 : Nat} {x1 : Nat} {S : ZS}  (h_x0 : x0 = x) (h_x1 : x1 = bb) (hf : f_X5_readSide_0 x0 x1 S = some o) : PFq x bb S o.2 := by
  have h_S : PFq x bb S S := pfq_0
  unfold f_X5_readSide_0 at hf
  obtain ⟨-, hf⟩ := m_chkE hf
  obtain ⟨b1, h_b1, hf⟩ := m_calE hf
  obtain ⟨-, hf⟩ := m_chkE hf
  obtain ⟨-, hf⟩ := m_chkE hf
  obtain ⟨o2, ho, hf⟩ := m_calE hf
  have h_o2 := pfq_r h_S (ro_X6_at ho)
  clear ho
  rcases m_ifE hf with ⟨-, hf⟩ | ⟨-, hf⟩
  ·
    exact pfq_t h_o2 (pf_X5_readSide_22  h_x0 h_x1 hf)
  ·
    exact pfq_t h_o2 (pf_X5_readSide_22  h_x0 h_x1 hf)
theorem pf_X5_readSide {o : Int32 × ZS} {x0 : Nat} {x1 : Nat} {S : ZS}  (h_x0 : x0 = x) (h_x1 : x1 = bb) (hf : f_X5_readSide x0 x1 S = some o) : PFq x bb S o.2 := by
  have h_S : PFq x bb S S := pfq_0
  unfold f_X5_readSide at hf
  exact pfq_t h_S (pf_X5_readSide_0  h_x0 h_x1 hf)
theorem pf_X5_readRights_65 {o : Int32 × ZS} {t0 : Int32} {S : ZS}   (hf : f_X5_readRights_65 t0 S = some o) : PFq x bb S o.2 := by
  have h_S : PFq x bb S S := pfq_0
  unfold f_X5_readRights_65 at hf
  obtain ⟨-, hf⟩ := m_chkE hf
  cases hf
  exact h_S
theorem pf_X5_readRights_47 {o : Int32 × ZS} {self13 : Nat → Nat → Int32 → ZS → Option (Int32 × ZS)} {x0 : Nat} {x1 : Nat} {x2 : Int32} {S : ZS} (hself13 : ∀ (z0 : Nat) (z1 : Nat) (z2 : Int32) (S : ZS) (o : Int32 × ZS), z0 = x → z1 = bb → self13 z0 z1 z2 S = some o → PFq x bb S o.2) (h_x0 : x0 = x) (h_x1 : x1 = bb) (hf : f_X5_readRights_47 self13 x0 x1 x2 S = some o) : PFq x bb S o.2 := by
  have h_S : PFq x bb S S := pfq_0
  unfold f_X5_readRights_47 at hf
  obtain ⟨v1, -, hf⟩ := m_bndE hf
  exact pfq_t h_S (hself13 _ _ _ _ _ h_x0 h_x1 hf)
theorem pf_X5_readRights_13s {o : Int32 × ZS} {self13 : Nat → Nat → Int32 → ZS → Option (Int32 × ZS)} {x0 : Nat} {x1 : Nat} {x2 : Int32} {S : ZS} (hself13 : ∀ (z0 : Nat) (z1 : Nat) (z2 : Int32) (S : ZS) (o : Int32 × ZS), z0 = x → z1 = bb → self13 z0 z1 z2 S = some o → PFq x bb S o.2) (h_x0 : x0 = x) (h_x1 : x1 = bb) (hf : f_X5_readRights_13s self13 x0 x1 x2 S = some o) : PFq x bb S o.2 := by
  have h_S : PFq x bb S S := pfq_0
  unfold f_X5_readRights_13s at hf
  obtain ⟨-, hf⟩ := m_chkE hf
  obtain ⟨o1, ho, hf⟩ := m_calE hf
  have h_o1 := pfq_r h_S (ro_J0_length_8abf5 ho)
  clear ho
  rcases m_ifE hf with ⟨-, hf⟩ | ⟨-, hf⟩
  ·
    obtain ⟨-, hf⟩ := m_chkE hf
    rcases m_ifE hf with ⟨-, hf⟩ | ⟨-, hf⟩
    ·
      exact pfq_t h_o1 (pf_X5_readRights_65   hf)
    ·
      exact pfq_t h_o1 (pf_X5_readRights_65   hf)
  ·
    obtain ⟨-, hf⟩ := m_chkE hf
    obtain ⟨o2, ho, hf⟩ := m_calE hf
    have h_o2 := pfq_r h_o1 (ro_J0_charAt_5068e ho)
    clear ho
    obtain ⟨-, hf⟩ := m_chkE hf
    obtain ⟨o3, ho, hf⟩ := m_calE hf
    have h_o3 := pfq_t h_o2 (pf_X5_skip h_x0 ho)
    clear ho
    rcases m_ifE hf with ⟨-, hf⟩ | ⟨-, hf⟩
    ·
      exact pfq_t h_o3 (pf_X5_readRights_47 hself13 h_x0 h_x1 hf)
    ·
      obtain ⟨-, hf⟩ := m_chkE hf
      obtain ⟨v4, -, hf⟩ := m_bndE hf
      obtain ⟨v5, -, hf⟩ := m_bndE hf
      obtain ⟨-, hf⟩ := m_chkE hf
      obtain ⟨S6, e_S6, hf⟩ := m_bndE hf
      have h_S6 := pfq_t h_o3 (pfq_bb e_S6 (h_x1))
      exact pfq_t h_S6 (pf_X5_readRights_47 hself13 h_x0 h_x1 hf)
theorem pf_X5_readRights_13 (n : Nat) : ∀ (y0 : Nat) (y1 : Nat) (y2 : Int32) (S : ZS) (o : Int32 × ZS), y0 = x → y1 = bb → f_X5_readRights_13 n y0 y1 y2 S = some o → PFq x bb S o.2 := by
  induction n with
  | zero => intro y0 y1 y2 S o r0 r1 hf; cases hf
  | succ n ih => intro y0 y1 y2 S o r0 r1 hf; exact pf_X5_readRights_13s ih r0 r1 hf
theorem pf_X5_readRights_0 {o : Int32 × ZS} {x0 : Nat} {x1 : Nat} {S : ZS}  (h_x0 : x0 = x) (h_x1 : x1 = bb) (hf : f_X5_readRights_0 x0 x1 S = some o) : PFq x bb S o.2 := by
  have h_S : PFq x bb S S := pfq_0
  unfold f_X5_readRights_0 at hf
  obtain ⟨-, hf⟩ := m_chkE hf
  obtain ⟨o1, ho, hf⟩ := m_calE hf
  have h_o1 := pfq_t h_S (pf_X5_skip h_x0 ho)
  clear ho
  rcases m_ifE hf with ⟨-, hf⟩ | ⟨-, hf⟩
  ·
    exact pfq_t h_o1 (pf_X5_readRights_13 _ _ _ _ _ _ h_x0 h_x1 hf)
  ·
    obtain ⟨-, hf⟩ := m_chkE hf
    cases hf
    exact h_o1
theorem pf_X5_readRights {o : Int32 × ZS} {x0 : Nat} {x1 : Nat} {S : ZS}  (h_x0 : x0 = x) (h_x1 : x1 = bb) (hf : f_X5_readRights x0 x1 S = some o) : PFq x bb S o.2 := by
  have h_S : PFq x bb S S := pfq_0
  unfold f_X5_readRights at hf
  exact pfq_t h_S (pf_X5_readRights_0  h_x0 h_x1 hf)
theorem pf_X5_readPassed_65 {o : Int32 × ZS} {t0 : Int32} {S : ZS}   (hf : f_X5_readPassed_65 t0 S = some o) : PFq x bb S o.2 := by
  have h_S : PFq x bb S S := pfq_0
  unfold f_X5_readPassed_65 at hf
  obtain ⟨-, hf⟩ := m_chkE hf
  cases hf
  exact h_S
theorem pf_X5_readPassed_0 {o : Int32 × ZS} {x0 : Nat} {x1 : Nat} {S : ZS}  (h_x0 : x0 = x) (h_x1 : x1 = bb) (hf : f_X5_readPassed_0 x0 x1 S = some o) : PFq x bb S o.2 := by
  have h_S : PFq x bb S S := pfq_0
  unfold f_X5_readPassed_0 at hf
  obtain ⟨-, hf⟩ := m_chkE hf
  obtain ⟨o1, ho, hf⟩ := m_calE hf
  have h_o1 := pfq_t h_S (pf_X5_skip h_x0 ho)
  clear ho
  rcases m_ifE hf with ⟨-, hf⟩ | ⟨-, hf⟩
  ·
    obtain ⟨-, hf⟩ := m_chkE hf
    obtain ⟨b2, h_b2, hf⟩ := m_calE hf
    obtain ⟨-, hf⟩ := m_chkE hf
    obtain ⟨-, hf⟩ := m_chkE hf
    obtain ⟨o3, ho, hf⟩ := m_calE hf
    have h_o3 := pfq_r h_o1 (ro_X6_at ho)
    clear ho
    obtain ⟨-, hf⟩ := m_chkE hf
    obtain ⟨b4, h_b4, hf⟩ := m_calE hf
    obtain ⟨-, hf⟩ := m_chkE hf
    obtain ⟨v5, -, hf⟩ := m_bndE hf
    obtain ⟨-, hf⟩ := m_chkE hf
    obtain ⟨o6, ho, hf⟩ := m_calE hf
    have h_o6 := pfq_r h_o3 (ro_X6_at ho)
    clear ho
    obtain ⟨o7, ho, hf⟩ := m_calE hf
    have h_o7 := pfq_r h_o6 (ro_X11_squareOf ho)
    clear ho
    obtain ⟨-, hf⟩ := m_chkE hf
    obtain ⟨S8, e_S8, hf⟩ := m_bndE hf
    have h_S8 := pfq_t h_o7 (pfq_bb e_S8 (h_x1))
    obtain ⟨-, hf⟩ := m_chkE hf
    obtain ⟨v9, -, hf⟩ := m_bndE hf
    obtain ⟨-, hf⟩ := m_chkE hf
    obtain ⟨S10, e_S10, hf⟩ := m_bndE hf
    have h_S10 := pfq_t h_S8 (pfq_x e_S10 (h_x0))
    obtain ⟨-, hf⟩ := m_chkE hf
    rcases m_ifE hf with ⟨-, hf⟩ | ⟨-, hf⟩
    ·
      exact pfq_t h_S10 (pf_X5_readPassed_65   hf)
    ·
      exact pfq_t h_S10 (pf_X5_readPassed_65   hf)
  ·
    obtain ⟨-, hf⟩ := m_chkE hf
    cases hf
    exact h_o1
theorem pf_X5_readPassed {o : Int32 × ZS} {x0 : Nat} {x1 : Nat} {S : ZS}  (h_x0 : x0 = x) (h_x1 : x1 = bb) (hf : f_X5_readPassed x0 x1 S = some o) : PFq x bb S o.2 := by
  have h_S : PFq x bb S S := pfq_0
  unfold f_X5_readPassed at hf
  exact pfq_t h_S (pf_X5_readPassed_0  h_x0 h_x1 hf)
theorem pf_X5_readNumber_113 {o : Int32 × ZS} {t0 : Int32} {S : ZS}   (hf : f_X5_readNumber_113 t0 S = some o) : PFq x bb S o.2 := by
  have h_S : PFq x bb S S := pfq_0
  unfold f_X5_readNumber_113 at hf
  cases hf
  exact h_S
theorem pf_X5_readNumber_108 {o : Int32 × ZS} {S : ZS}   (hf : f_X5_readNumber_108 S = some o) : PFq x bb S o.2 := by
  have h_S : PFq x bb S S := pfq_0
  unfold f_X5_readNumber_108 at hf
  exact pfq_t h_S (pf_X5_readNumber_113   hf)
theorem pf_X5_readNumber_95 {o : Int32 × ZS} {x0 : Nat} {x1 : Int32} {x2 : Int32} {t0 : Int32} {S : ZS}  (h_x0 : x0 = x) (hf : f_X5_readNumber_95 x0 x1 x2 t0 S = some o) : PFq x bb S o.2 := by
  have h_S : PFq x bb S S := pfq_0
  unfold f_X5_readNumber_95 at hf
  obtain ⟨-, hf⟩ := m_chkE hf
  rcases m_ifE hf with ⟨-, hf⟩ | ⟨-, hf⟩
  ·
    exact pfq_t h_S (pf_X5_readNumber_108   hf)
  ·
    rcases m_ifE hf with ⟨-, hf⟩ | ⟨-, hf⟩
    ·
      exact pfq_t h_S (pf_X5_readNumber_113   hf)
    ·
      exact pfq_t h_S (pf_X5_readNumber_108   hf)
theorem pf_X5_readNumber_94 {o : Int32 × ZS} {x0 : Nat} {x1 : Int32} {x2 : Int32} {S : ZS}  (h_x0 : x0 = x) (hf : f_X5_readNumber_94 x0 x1 x2 S = some o) : PFq x bb S o.2 := by
  have h_S : PFq x bb S S := pfq_0
  unfold f_X5_readNumber_94 at hf
  exact pfq_t h_S (pf_X5_readNumber_95  h_x0 hf)
theorem pf_X5_readNumber_67 {o : Int32 × ZS} {x0 : Nat} {x1 : Int32} {x2 : Int32} {S : ZS}  (h_x0 : x0 = x) (hf : f_X5_readNumber_67 x0 x1 x2 S = some o) : PFq x bb S o.2 := by
  have h_S : PFq x bb S S := pfq_0
  unfold f_X5_readNumber_67 at hf
  obtain ⟨-, hf⟩ := m_chkE hf
  obtain ⟨b1, h_b1, hf⟩ := m_calE hf
  obtain ⟨-, hf⟩ := m_chkE hf
  obtain ⟨o2, ho, hf⟩ := m_calE hf
  have h_o2 := pfq_r h_S (ro_X6_at ho)
  clear ho
  rcases m_ifE hf with ⟨-, hf⟩ | ⟨-, hf⟩
  ·
    obtain ⟨-, hf⟩ := m_chkE hf
    obtain ⟨v3, -, hf⟩ := m_bndE hf
    rcases m_ifE hf with ⟨-, hf⟩ | ⟨-, hf⟩
    ·
      exact pfq_t h_o2 (pf_X5_readNumber_94  h_x0 hf)
    ·
      exact pfq_t h_o2 (pf_X5_readNumber_95  h_x0 hf)
  ·
    exact pfq_t h_o2 (pf_X5_readNumber_94  h_x0 hf)
theorem pf_X5_readNumber_7s {o : Int32 × ZS} {self7 : Nat → Int32 → Int32 → ZS → Option (Int32 × ZS)} {x0 : Nat} {x1 : Int32} {x2 : Int32} {S : ZS} (hself7 : ∀ (z0 : Nat) (z1 : Int32) (z2 : Int32) (S : ZS) (o : Int32 × ZS), z0 = x → self7 z0 z1 z2 S = some o → PFq x bb S o.2) (h_x0 : x0 = x) (hf : f_X5_readNumber_7s self7 x0 x1 x2 S = some o) : PFq x bb S o.2 := by
  have h_S : PFq x bb S S := pfq_0
  unfold f_X5_readNumber_7s at hf
  obtain ⟨-, hf⟩ := m_chkE hf
  obtain ⟨v1, -, hf⟩ := m_bndE hf
  rcases m_ifE hf with ⟨-, hf⟩ | ⟨-, hf⟩
  ·
    exact pfq_t h_S (pf_X5_readNumber_67  h_x0 hf)
  ·
    obtain ⟨-, hf⟩ := m_chkE hf
    obtain ⟨b2, h_b2, hf⟩ := m_calE hf
    obtain ⟨-, hf⟩ := m_chkE hf
    obtain ⟨-, hf⟩ := m_chkE hf
    obtain ⟨o3, ho, hf⟩ := m_calE hf
    have h_o3 := pfq_r h_S (ro_X6_at ho)
    clear ho
    obtain ⟨o4, ho, hf⟩ := m_calE hf
    have h_o4 := pfq_r h_o3 (ro_X11_isDigit ho)
    clear ho
    rcases m_ifE hf with ⟨-, hf⟩ | ⟨-, hf⟩
    ·
      exact pfq_t h_o4 (pf_X5_readNumber_67  h_x0 hf)
    ·
      obtain ⟨v5, -, hf⟩ := m_bndE hf
      obtain ⟨-, hf⟩ := m_chkE hf
      obtain ⟨b6, h_b6, hf⟩ := m_calE hf
      obtain ⟨-, hf⟩ := m_chkE hf
      obtain ⟨-, hf⟩ := m_chkE hf
      obtain ⟨o7, ho, hf⟩ := m_calE hf
      have h_o7 := pfq_r h_o4 (ro_X6_at ho)
      clear ho
      obtain ⟨v8, -, hf⟩ := m_bndE hf
      obtain ⟨v9, -, hf⟩ := m_bndE hf
      obtain ⟨-, hf⟩ := m_chkE hf
      obtain ⟨v10, -, hf⟩ := m_bndE hf
      obtain ⟨-, hf⟩ := m_chkE hf
      obtain ⟨S11, e_S11, hf⟩ := m_bndE hf
      have h_S11 := pfq_t h_o7 (pfq_x e_S11 (h_x0))
      exact pfq_t h_S11 (hself7 _ _ _ _ _ h_x0 hf)
theorem pf_X5_readNumber_7 (n : Nat) : ∀ (y0 : Nat) (y1 : Int32) (y2 : Int32) (S : ZS) (o : Int32 × ZS), y0 = x → f_X5_readNumber_7 n y0 y1 y2 S = some o → PFq x bb S o.2 := by
  induction n with
  | zero => intro y0 y1 y2 S o r0 hf; cases hf
  | succ n ih => intro y0 y1 y2 S o r0 hf; exact pf_X5_readNumber_7s ih r0 hf
theorem pf_X5_readNumber_0 {o : Int32 × ZS} {x0 : Nat} {S : ZS}  (h_x0 : x0 = x) (hf : f_X5_readNumber_0 x0 S = some o) : PFq x bb S o.2 := by
  have h_S : PFq x bb S S := pfq_0
  unfold f_X5_readNumber_0 at hf
  obtain ⟨-, hf⟩ := m_chkE hf
  exact pfq_t h_S (pf_X5_readNumber_7 _ _ _ _ _ _ h_x0 hf)
theorem pf_X5_readNumber {o : Int32 × ZS} {x0 : Nat} {S : ZS}  (h_x0 : x0 = x) (hf : f_X5_readNumber x0 S = some o) : PFq x bb S o.2 := by
  have h_S : PFq x bb S S := pfq_0
  unfold f_X5_readNumber at hf
  exact pfq_t h_S (pf_X5_readNumber_0  h_x0 hf)
theorem pf_X5_readMoveNumber_20 {o : Int32 × ZS} {t0 : Int32} {S : ZS}   (hf : f_X5_readMoveNumber_20 t0 S = some o) : PFq x bb S o.2 := by
  have h_S : PFq x bb S S := pfq_0
  unfold f_X5_readMoveNumber_20 at hf
  obtain ⟨-, hf⟩ := m_chkE hf
  cases hf
  exact h_S
theorem pf_X5_readMoveNumber_0 {o : Int32 × ZS} {x0 : Nat} {x1 : Nat} {S : ZS}  (h_x0 : x0 = x) (h_x1 : x1 = bb) (hf : f_X5_readMoveNumber_0 x0 x1 S = some o) : PFq x bb S o.2 := by
  have h_S : PFq x bb S S := pfq_0
  unfold f_X5_readMoveNumber_0 at hf
  obtain ⟨-, hf⟩ := m_chkE hf
  obtain ⟨o1, ho, hf⟩ := m_calE hf
  have h_o1 := pfq_t h_S (pf_X5_readNumber h_x0 ho)
  clear ho
  obtain ⟨-, hf⟩ := m_chkE hf
  obtain ⟨S2, e_S2, hf⟩ := m_bndE hf
  have h_S2 := pfq_t h_o1 (pfq_bb e_S2 (h_x1))
  obtain ⟨-, hf⟩ := m_chkE hf
  rcases m_ifE hf with ⟨-, hf⟩ | ⟨-, hf⟩
  ·
    exact pfq_t h_S2 (pf_X5_readMoveNumber_20   hf)
  ·
    exact pfq_t h_S2 (pf_X5_readMoveNumber_20   hf)
theorem pf_X5_readMoveNumber {o : Int32 × ZS} {x0 : Nat} {x1 : Nat} {S : ZS}  (h_x0 : x0 = x) (h_x1 : x1 = bb) (hf : f_X5_readMoveNumber x0 x1 S = some o) : PFq x bb S o.2 := by
  have h_S : PFq x bb S S := pfq_0
  unfold f_X5_readMoveNumber at hf
  exact pfq_t h_S (pf_X5_readMoveNumber_0  h_x0 h_x1 hf)
theorem pf_X5_readInto_146 {o : Int32 × ZS} {t0 : Int32} {S : ZS}   (hf : f_X5_readInto_146 t0 S = some o) : PFq x bb S o.2 := by
  have h_S : PFq x bb S S := pfq_0
  unfold f_X5_readInto_146 at hf
  obtain ⟨-, hf⟩ := m_chkE hf
  cases hf
  exact h_S
theorem pf_X5_readInto_145 {o : Int32 × ZS} {S : ZS}   (hf : f_X5_readInto_145 S = some o) : PFq x bb S o.2 := by
  have h_S : PFq x bb S S := pfq_0
  unfold f_X5_readInto_145 at hf
  exact pfq_t h_S (pf_X5_readInto_146   hf)
theorem pf_X5_readInto_0 {o : Int32 × ZS} {x0 : Nat} {x1 : Nat} {x2 : Nat} {S : ZS}  {BB : ZS} (hBB : BB = zsI (zsP S 0 x0 (some x2)) 1 x0 0) (h_x0 : x0 = x) (h_x1 : x1 = bb) (hf : f_X5_readInto_0 x0 x1 x2 S = some o) : PFq x bb BB o.2 := by
  have h_S : PFq x bb S S := pfq_0
  unfold f_X5_readInto_0 at hf
  obtain ⟨-, hf⟩ := m_chkE hf
  obtain ⟨S1, e_S1, hf⟩ := m_bndE hf
  obtain ⟨-, hf⟩ := m_chkE hf
  obtain ⟨S2, e_S2, hf⟩ := m_bndE hf
  have h_S2 : PFq x bb BB S2 := by rw [e_S2, e_S1, ← hBB]; exact pfq_0
  obtain ⟨-, hf⟩ := m_chkE hf
  obtain ⟨o3, ho, hf⟩ := m_calE hf
  have h_o3 := pfq_t h_S2 (pf_X0_wipe h_x1 ho)
  clear ho
  obtain ⟨-, hf⟩ := m_chkE hf
  obtain ⟨o4, ho, hf⟩ := m_calE hf
  have h_o4 := pfq_t h_o3 (pf_X5_readMen h_x0 h_x1 ho)
  clear ho
  rcases m_ifE hf with ⟨-, hf⟩ | ⟨-, hf⟩
  ·
    exact pfq_t h_o4 (pf_X5_readInto_145   hf)
  ·
    obtain ⟨-, hf⟩ := m_chkE hf
    obtain ⟨o5, ho, hf⟩ := m_calE hf
    have h_o5 := pfq_t h_o4 (pf_X5_skip h_x0 ho)
    clear ho
    rcases m_ifE hf with ⟨-, hf⟩ | ⟨-, hf⟩
    ·
      exact pfq_t h_o5 (pf_X5_readInto_145   hf)
    ·
      obtain ⟨-, hf⟩ := m_chkE hf
      obtain ⟨o6, ho, hf⟩ := m_calE hf
      have h_o6 := pfq_t h_o5 (pf_X5_readSide h_x0 h_x1 ho)
      clear ho
      rcases m_ifE hf with ⟨-, hf⟩ | ⟨-, hf⟩
      ·
        exact pfq_t h_o6 (pf_X5_readInto_145   hf)
      ·
        obtain ⟨-, hf⟩ := m_chkE hf
        obtain ⟨o7, ho, hf⟩ := m_calE hf
        have h_o7 := pfq_t h_o6 (pf_X5_skip h_x0 ho)
        clear ho
        rcases m_ifE hf with ⟨-, hf⟩ | ⟨-, hf⟩
        ·
          exact pfq_t h_o7 (pf_X5_readInto_145   hf)
        ·
          obtain ⟨-, hf⟩ := m_chkE hf
          obtain ⟨o8, ho, hf⟩ := m_calE hf
          have h_o8 := pfq_t h_o7 (pf_X5_readRights h_x0 h_x1 ho)
          clear ho
          rcases m_ifE hf with ⟨-, hf⟩ | ⟨-, hf⟩
          ·
            exact pfq_t h_o8 (pf_X5_readInto_145   hf)
          ·
            obtain ⟨-, hf⟩ := m_chkE hf
            obtain ⟨o9, ho, hf⟩ := m_calE hf
            have h_o9 := pfq_t h_o8 (pf_X5_skip h_x0 ho)
            clear ho
            rcases m_ifE hf with ⟨-, hf⟩ | ⟨-, hf⟩
            ·
              exact pfq_t h_o9 (pf_X5_readInto_145   hf)
            ·
              obtain ⟨-, hf⟩ := m_chkE hf
              obtain ⟨o10, ho, hf⟩ := m_calE hf
              have h_o10 := pfq_t h_o9 (pf_X5_readPassed h_x0 h_x1 ho)
              clear ho
              rcases m_ifE hf with ⟨-, hf⟩ | ⟨-, hf⟩
              ·
                exact pfq_t h_o10 (pf_X5_readInto_145   hf)
              ·
                obtain ⟨-, hf⟩ := m_chkE hf
                obtain ⟨o11, ho, hf⟩ := m_calE hf
                have h_o11 := pfq_t h_o10 (pf_X5_skip h_x0 ho)
                clear ho
                rcases m_ifE hf with ⟨-, hf⟩ | ⟨-, hf⟩
                ·
                  exact pfq_t h_o11 (pf_X5_readInto_145   hf)
                ·
                  obtain ⟨-, hf⟩ := m_chkE hf
                  obtain ⟨o12, ho, hf⟩ := m_calE hf
                  have h_o12 := pfq_t h_o11 (pf_X5_readNumber h_x0 ho)
                  clear ho
                  rcases m_ifE hf with ⟨-, hf⟩ | ⟨-, hf⟩
                  ·
                    exact pfq_t h_o12 (pf_X5_readInto_145   hf)
                  ·
                    obtain ⟨-, hf⟩ := m_chkE hf
                    obtain ⟨o13, ho, hf⟩ := m_calE hf
                    have h_o13 := pfq_t h_o12 (pf_X5_skip h_x0 ho)
                    clear ho
                    rcases m_ifE hf with ⟨-, hf⟩ | ⟨-, hf⟩
                    ·
                      exact pfq_t h_o13 (pf_X5_readInto_145   hf)
                    ·
                      obtain ⟨-, hf⟩ := m_chkE hf
                      obtain ⟨o14, ho, hf⟩ := m_calE hf
                      have h_o14 := pfq_t h_o13 (pf_X5_readMoveNumber h_x0 h_x1 ho)
                      clear ho
                      rcases m_ifE hf with ⟨-, hf⟩ | ⟨-, hf⟩
                      ·
                        exact pfq_t h_o14 (pf_X5_readInto_145   hf)
                      ·
                        obtain ⟨-, hf⟩ := m_chkE hf
                        obtain ⟨-, hf⟩ := m_chkE hf
                        obtain ⟨b15, h_b15, hf⟩ := m_calE hf
                        obtain ⟨-, hf⟩ := m_chkE hf
                        obtain ⟨o16, ho, hf⟩ := m_calE hf
                        have h_o16 := pfq_r h_o14 (ro_X6_size ho)
                        clear ho
                        rcases m_ifE hf with ⟨-, hf⟩ | ⟨-, hf⟩
                        ·
                          obtain ⟨o17, ho, hf⟩ := m_calE hf
                          have h_o17 := pfq_r h_o16 (ro_X5_hasSoundMen ho)
                          clear ho
                          rcases m_ifE hf with ⟨-, hf⟩ | ⟨-, hf⟩
                          ·
                            exact pfq_t h_o17 (pf_X5_readInto_145   hf)
                          ·
                            obtain ⟨o18, ho, hf⟩ := m_calE hf
                            have h_o18 := pfq_r h_o17 (ro_X5_hasSoundRights ho)
                            clear ho
                            rcases m_ifE hf with ⟨-, hf⟩ | ⟨-, hf⟩
                            ·
                              exact pfq_t h_o18 (pf_X5_readInto_145   hf)
                            ·
                              obtain ⟨o19, ho, hf⟩ := m_calE hf
                              have h_o19 := pfq_r h_o18 (ro_X5_hasSoundPassed ho)
                              clear ho
                              rcases m_ifE hf with ⟨-, hf⟩ | ⟨-, hf⟩
                              ·
                                exact pfq_t h_o19 (pf_X5_readInto_145   hf)
                              ·
                                exact pfq_t h_o19 (pf_X5_readInto_146   hf)
                        ·
                          exact pfq_t h_o16 (pf_X5_readInto_145   hf)
theorem pf_X5_readInto {o : Int32 × ZS} {x0 : Nat} {x1 : Nat} {x2 : Nat} {S : ZS}  {BB : ZS} (hBB : BB = zsI (zsP S 0 x0 (some x2)) 1 x0 0) (h_x0 : x0 = x) (h_x1 : x1 = bb) (hf : f_X5_readInto x0 x1 x2 S = some o) : PFq x bb BB o.2 := by
  have h_S : PFq x bb S S := pfq_0
  unfold f_X5_readInto at hf
  exact pf_X5_readInto_0 hBB h_x0 h_x1 hf
end PFG
end
section
/-- the tags of the class's game g -/
noncomputable def TGk (S : ZS) (g : Nat) (L : List (List Int × List Int)) : Prop := (zI S 5 g).toInt = (L.length : Int) ∧ L.length ≤ 8 ∧ ∀ i : Nat, i < L.length → ∃ t, zB S (g + 6) i = some t ∧ RWL S (t + 1) (nmL L (i : Int)) ∧ RWL S (t + 2) (vlL L (i : Int))
/-- the cells of a game's tags -/
noncomputable def TGf (S : ZS) (g a : Nat) : Prop := a = g ∨ a = g + 6 ∨ ∃ i t, zB S (g + 6) i = some t ∧ (a = t + 1 ∨ a = t + 2)
section TGP
variable {S S' : ZS} {g g' : Nat} {L : List (List Int × List Int)} {u w : List Int} {o : Int32 × ZS} {x1 : Int32}
theorem tgk_c (hC : CG S) (hg : g = 35 ∨ g = 99) (h : TGk S g L) : TGc S g L := by
  obtain ⟨h1, h2, h3⟩ := h
  refine ⟨h1, h2, g + 6, (fx_g hC.2.2.1 hg).1.2.2.2.2.1, fun i i0 i1 => ?_⟩
  obtain ⟨t, t1, t2, t3⟩ := h3 i.toNat (by omega)
  obtain ⟨-, -, a3, a4, -⟩ := (gm_of hC hg).2 _ _ t1
  have e : ((i.toNat : Nat) : Int) = i := by omega
  rw [e] at t2 t3
  exact ⟨t, t + 1, t + 2, t1, a3, a4, t2, t3⟩
theorem tgk_fr {W : Nat → Prop} (hC : CG S) (hg : g = 35 ∨ g = 99) (h : TGk S g L) (hF : FR W S S') (h5 : zI S' 5 g = zI S 5 g) (h6 : ¬ W (g + 6)) (ht : ∀ i t, zB S (g + 6) i = some t → ¬ W (t + 1) ∧ ¬ W (t + 2)) : TGk S' g L := by
  obtain ⟨h1, h2, h3⟩ := h
  refine ⟨by rw [h5]; exact h1, h2, fun i hi => ?_⟩
  obtain ⟨t, t1, t2, t3⟩ := h3 i hi
  obtain ⟨-, -, -, -, a5, a6⟩ := (gm_of hC hg).2 _ _ t1
  have k6 := (fx_g hC.2.2.1 hg).2.1.2.2.2.2.2.1
  have eb := (fr_e hF (by rw [k6]; decide) h6).2.2.2.2.1
  exact ⟨t, by rw [eb]; exact t1, eqc_rl (fr_e hF (by rw [a5]; decide) (ht i t t1).1) a5 t2, eqc_rl (fr_e hF (by rw [a6]; decide) (ht i t t1).2) a6 t3⟩
/-- the tag at a place -/
theorem p_tagC {gm ar t r : Nat} (hP : zP S 4 gm = some ar) (hi : 0 ≤ x1.toInt ∧ x1.toInt < (zI S 5 gm).toInt) (g1 : zB S ar x1.toInt.toNat = some t) (hf : d_X1_tagAt gm x1 S = some (r, S')) : S' = S ∧ r = t := by
  have hf : d_X1_tagAt_0 gm x1 S = some (r, S') := hf
  have z0 : (0 : Int32).toInt = 0 := rfl
  unfold d_X1_tagAt_0 at hf
  rcases m_ifE hf with ⟨c1, hf⟩ | ⟨c1, hf⟩
  · replace c1 := ti_ltP (a := x1) (b := (0 : Int32)) c1 rfl rfl
    omega
  · obtain ⟨-, hf⟩ := m_chkE hf
    rcases m_ifE hf with ⟨c2, hf⟩ | ⟨c2, hf⟩
    · replace c2 := ti_leP (a := zI S 5 gm) (b := x1) c2 rfl rfl
      omega
    · obtain ⟨-, hf⟩ := m_chkE hf
      replace hf := m_calY hf hP
      obtain ⟨-, hf⟩ := m_chkE hf
      obtain ⟨-, hf⟩ := m_chkE hf
      obtain ⟨v2, e2, hf⟩ := m_bndE hf
      have e3 : v2 = some t := by rw [e2]; exact g1
      unfold d_X1_tagAt_22 at hf
      rcases m_optE hf with ⟨n1, hf⟩ | ⟨b1, n1, hf⟩
      · rw [n1] at e3; cases e3
      · rw [n1] at e3
        cases e3
        unfold d_X1_tagAt_38 at hf
        replace hf := m_calY hf rfl
        cases hf
        exact ⟨rfl, rfl⟩
/-- room for a tag more: c -/
noncomputable def GXt (S SX : ZS) (g c n : Nat) : Prop := (zB SX (g + 6) n = some c ∧ (∀ i, i ≠ n → zB SX (g + 6) i = zB S (g + 6) i)) ∧ FR (fun a => a = g + 6) S SX ∧ (zB S (g + 6) n = some c ∨ 18 ≤ zK S c ∧ 18 ≤ zK S (c + 1) ∧ 18 ≤ zK S (c + 2)) ∧ (109 ≤ c ∧ zK SX c = 10 ∧ zP SX 0 c = some (c + 1) ∧ zP SX 1 c = some (c + 2) ∧ zK SX (c + 1) = 6 ∧ zK SX (c + 2) = 6) ∧ ZT SX
theorem pt_0 {x1 x2 : Nat} (hC : CG S) (hg : g = 35 ∨ g = 99) (h : TGk S g L) (hl : L.length < 8) (hf : d_X1_putTag g x1 x2 S = some o) : ∃ SX c, GXt S SX g c L.length ∧ d_X1_putTag_38 g x1 x2 SX = some o := by
  obtain ⟨⟨kg, p0, p1, p2, p4, p7⟩, ⟨k1, k2', k3, k4, k5, k6, k7⟩, -⟩ := fx_g hC.2.2.1 hg
  have hT := hC.1
  have h1 := h.1
  have hf : d_X1_putTag_0 g x1 x2 S = some o := hf
  have ix : (zI S 5 g).toNatClampNeg = L.length := cl_n h1
  have T0 : 18 ≤ zK S (zt S) := hT.2.2.2.2.1 _ (Nat.le_refl _)
  have T1 : 18 ≤ zK S (zt S + 1) := hT.2.2.2.2.1 _ (by omega)
  have T2 : 18 ≤ zK S (zt S + 2) := hT.2.2.2.2.1 _ (by omega)
  unfold d_X1_putTag_0 at hf
  obtain ⟨-, hf⟩ := m_chkE hf
  rcases m_ifE hf with ⟨c1, hf⟩ | ⟨c1, hf⟩
  · skip
    replace c1 := ti_ltP (a := (zI S 5 g)) (b := (8 : Int32)) c1 rfl (show (8 : Int32).toInt = 8 from rfl)
    obtain ⟨-, hf⟩ := m_chkE hf
    replace hf := m_calY hf p4
    obtain ⟨-, hf⟩ := m_chkE hf
    obtain ⟨-, hf⟩ := m_chkE hf
    obtain ⟨-, hf⟩ := m_chkE hf
    obtain ⟨v2, e_v2, hf⟩ := m_bndE hf
    rw [ix] at e_v2 hf
    rcases m_optE hf with ⟨n_b3, hf⟩ | ⟨b3, h_b3, hf⟩
    · skip
      rw [n_b3] at e_v2
      obtain ⟨-, hf⟩ := m_chkE hf
      replace hf := m_calY hf p4
      obtain ⟨-, hf⟩ := m_chkE hf
      obtain ⟨q5, e_q5, hf⟩ := m_bndE hf
      obtain ⟨S6, e_S6, hf⟩ := m_bndE hf
      rw [e_q5] at e_S6 hf
      rw [e_S6] at hf
      obtain ⟨⟨r10, S11⟩, h_r10, hf⟩ := m_cal2E hf
      dsimp only at hf
      rw [init10 S] at h_r10
      cases h_r10
      obtain ⟨-, hf⟩ := m_chkE hf
      obtain ⟨-, hf⟩ := m_chkE hf
      obtain ⟨-, hf⟩ := m_chkE hf
      obtain ⟨S14, e_S14, hf⟩ := m_bndE hf
      obtain ⟨TX, -⟩ := rp_tag (i := L.length) hT k6 e_v2.symm (by omega)
      obtain ⟨f1, f2, f3, f4, ⟨f5, -⟩, ⟨f6, -⟩, f7, f8, -⟩ := tg_f S
      obtain ⟨g1, g2, g3, -⟩ := tg_e S
      have nN : ∀ a, zK S a < 18 → ¬ (a = zt S ∨ a = zt S + 1 ∨ a = zt S + 2) := fun a ha e => by
        have := hT.2.2.2.2.1 a (by omega)
        omega
      have KX : ∀ a, zK S a < 18 → zK S14 a = zK S a := fun a ha => by
        rw [e_S14]
        show zK (zTg S) a = _
        exact f1 a (nN a ha)
      have BX : ∀ a, a ≠ g + 6 → zB S14 a = zB S a := fun a ha => by
        rw [e_S14]
        show va_up (zB (zTg S)) (g + 6) _ a = _
        rw [va_up_ne _ _ ha, g3]
      refine ⟨S14, zt S, ⟨⟨?_, fun i hi => ?_⟩, fun a ha => ?_, Or.inr ⟨T0, T1, T2⟩, ⟨hT.2.2.2.2.2.2.2.2.2.2.1, ?_, ?_, ?_, ?_, ?_⟩, by rw [e_S14]; exact TX⟩, hf⟩
      · rw [e_S14]
        show va_up (zB (zTg S)) (g + 6) (va_up (zB (zTg S) (g + 6)) L.length (some (zt S))) (g + 6) L.length = _
        rw [va_up_self, va_up_self]
      · rw [e_S14]
        show va_up (zB (zTg S)) (g + 6) (va_up (zB (zTg S) (g + 6)) L.length (some (zt S))) (g + 6) i = _
        rw [va_up_self, va_up_ne _ _ hi, g3]
      · have IX' : ∀ j, zI S14 j a = zI S j a := fun j => by
          rw [e_S14]
          show zI (zTg S) j a = _
          exact f2 a j (nN a ha)
        have PX : ∀ j, zP S14 j a = zP S j a := fun j => by
          rw [e_S14]
          show zP (zTg S) j a = _
          exact f3 a j (nN a ha)
        have NX : zN S14 a = zN S a := by
          rw [e_S14]
          show zN (zTg S) a = _
          rw [g1]
        have AX : ∀ a, zA S14 a = zA S a := fun a => by
          rw [e_S14]
          show zA (zTg S) a = _
          rw [g2]
        exact ⟨⟨KX a ha, NX, fun _ j => PX j, fun k15 => BX a (fun e => by rw [e, k6] at k15; omega)⟩, fun hw => ⟨KX a ha, NX, IX', PX, BX a hw, fun _ => AX a, fun _ c _ => AX c⟩⟩
      · rw [e_S14]; exact f4
      · rw [e_S14]; exact f7
      · rw [e_S14]; exact f8
      · rw [e_S14]; exact f5
      · rw [e_S14]; exact f6
    · skip
      rw [h_b3] at e_v2
      obtain ⟨a1, a2, a3, a4, a5, a6⟩ := (gm_of hC hg).2 _ _ e_v2.symm
      exact ⟨S, b3, ⟨⟨e_v2.symm, fun i _ => rfl⟩, fr_0, Or.inl e_v2.symm, ⟨a1, a2, a3, a4, a5, a6⟩, hT⟩, hf⟩
  · skip
    replace c1 := ti_ltN (a := (zI S 5 g)) (b := (8 : Int32)) c1 rfl (show (8 : Int32).toInt = 8 from rfl)
    cases hf
    try dsimp only
    have z8 : (8 : Int32).toInt = 8 := rfl
    omega
/-- the name and the value come into the tag c -/
theorem pt_38 {SX : ZS} {c : Nat} (hC : CG S) (hg : GG g g') (h : TGk S g L) (hl : L.length < 8) (hX : GXt S SX g c L.length) (hu : RWL S 43 u) (hw : RWL S 44 w) (lu : u.length ≤ 12) (lw : w.length ≤ 96) (cu : ∀ i, 0 ≤ wA u i ∧ wA u i ≤ 65535) (cw : ∀ i, 0 ≤ wA w i ∧ wA w i ≤ 65535) (hf : d_X1_putTag_38 g 43 44 SX = some o) : RWL o.2 (c + 1) u ∧ RWL o.2 (c + 2) w ∧ (zI o.2 5 g).toInt = (L.length : Int) + 1 ∧ FR (fun a => a = g ∨ a = c + 1 ∨ a = c + 2) SX o.2 ∧ ∀ j, j ≠ 5 → zI o.2 j g = zI SX j g := by
  obtain ⟨⟨kg, p0, p1, p2, p4, p7⟩, ⟨k1, k2', k3, k4, k5, k6, k7⟩, -⟩ := fx_g hC.2.2.1 (gg_g hg)
  obtain ⟨⟨b1, b2⟩, FX, old, ⟨c1, c2, c3, c4, c5, c6⟩, TX⟩ := hX
  have gb : g = 35 ∨ g = 99 := gg_g hg
  have k43 : zK S 43 = 6 := fx_k hC.2.2.1 (by decide) (by decide)
  have k44 : zK S 44 = 6 := fx_k hC.2.2.1 (by decide) (by decide)
  have huX := eqc_rl (fr_e FX (by rw [k43]; decide) (show ¬ 43 = g + 6 by omega)) k43 hu
  have hwX := eqc_rl (fr_e FX (by rw [k44]; decide) (show ¬ 44 = g + 6 by omega)) k44 hw
  have k43X : zK SX 43 = 6 := (fr_k FX (by rw [k43]; decide)).trans k43
  have k44X : zK SX 44 = 6 := (fr_k FX (by rw [k44]; decide)).trans k44
  have kgX : zK SX g = 1 := (fr_k FX (by rw [kg]; decide)).trans kg
  have k6X : zK SX (g + 6) = 17 := (fr_k FX (by rw [k6]; decide)).trans k6
  have eg := fr_e FX (by rw [kg]; decide) (show ¬ g = g + 6 by omega)
  have i5 : (zI SX 5 g).toInt = (L.length : Int) := by rw [eg.2.2.1]; exact h.1
  have p4X : zP SX 4 g = some (g + 6) := (eg.2.2.2.1 4).trans p4
  have z0 : (0 : Int32).toInt = 0 := rfl
  unfold d_X1_putTag_38 at hf
  obtain ⟨-, hf⟩ := m_chkE hf
  obtain ⟨v1, e_v1, hf⟩ := m_bndE hf
  have t_v1 : v1.toInt = (zI SX 5 g).toInt + 1 := ti_add e_v1 rfl (show (1 : Int32).toInt = 1 from rfl) (by omega) (by omega)
  obtain ⟨-, hf⟩ := m_chkE hf
  obtain ⟨S2, e_S2, hf⟩ := m_bndE hf
  have T2 : ZT S2 := e_S2.symm ▸ zt_T1 TX kgX (by omega) (by omega) (fun b hb => by
    rw [p4X] at hb
    cases hb
    exact ⟨c, by rw [cl_n i5]; exact b1⟩)
  have F2 : FR (fun a => a = g) SX S2 := fr_I e_S2
  have j5 : (zI S2 5 g).toInt = (L.length : Int) + 1 := by rw [e_S2, zI_self]; omega
  have q4 : zP S2 4 g = some (g + 6) := by rw [e_S2]; exact p4X
  have kc2 : zK S2 c = 10 := by rw [e_S2]; exact c2
  have kr2 : zK S2 (c + 1) = 6 := by rw [e_S2]; exact c5
  have kw2 : zK S2 (c + 2) = 6 := by rw [e_S2]; exact c6
  have pc2 : zP S2 0 c = some (c + 1) := by rw [e_S2]; exact c3
  have pd2 : zP S2 1 c = some (c + 2) := by rw [e_S2]; exact c4
  have hu2 := eqc_rl (fr_e F2 (by rw [k43X]; decide) (show ¬ 43 = g by omega)) k43X huX
  have hw2 := eqc_rl (fr_e F2 (by rw [k44X]; decide) (show ¬ 44 = g by omega)) k44X hwX
  have k432 : zK S2 43 = 6 := by rw [e_S2]; exact k43X
  have k442 : zK S2 44 = 6 := by rw [e_S2]; exact k44X
  obtain ⟨-, hf⟩ := m_chkE hf
  obtain ⟨v3, e_v3, hf⟩ := m_bndE hf
  have t_v3 : v3.toInt = (zI S2 5 g).toInt - 1 := ti_sub e_v3 rfl (show (1 : Int32).toInt = 1 from rfl) (by omega) (by omega)
  obtain ⟨-, hf⟩ := m_chkE hf
  obtain ⟨⟨r5, S6⟩, h_r5, hf⟩ := m_cal2E hf
  dsimp only at hf
  obtain ⟨e6, q5⟩ := p_tagC q4 ⟨by omega, by omega⟩ (by rw [e_S2, show v3.toInt.toNat = L.length by omega]; exact b1) h_r5
  rw [e6, q5] at hf
  obtain ⟨-, hf⟩ := m_chkE hf
  replace hf := m_calY hf pc2
  obtain ⟨-, hf⟩ := m_chkE hf
  obtain ⟨⟨r11, S12⟩, h_r11, hf⟩ := m_cal2E hf
  dsimp only at hf
  obtain ⟨r, hr⟩ := rwl_ex T2 kr2
  obtain ⟨T12, F12, R12⟩ := p_copyFrom T2 (show (43 : Nat) ≠ c + 1 by omega) (by rw [rc_new (show 109 ≤ c + 1 by omega)]; decide) (by omega) cu hu2 kr2 k432 (by rw [hr.1]; omega) h_r11
  dsimp only at T12 F12 R12
  have G12 := fr_r F12 kr2
  have eg12 := fr_e G12 (show zK S2 g < 18 by rw [e_S2]; show zK SX g < 18; rw [kgX]; decide) (show ¬ g = c + 1 by omega)
  have ec12 := fr_e G12 (show zK S2 c < 18 by rw [kc2]; decide) (show ¬ c = c + 1 by omega)
  have e6 := fr_e G12 (show zK S2 (g + 6) < 18 by rw [e_S2]; show zK SX (g + 6) < 18; rw [k6X]; decide) (show ¬ g + 6 = c + 1 by omega)
  have hw12 := eqc_rl (fr_e G12 (by rw [k442]; decide) (show ¬ 44 = c + 1 by omega)) k442 hw2
  have kw12 := (fr_k G12 (by rw [kw2]; decide)).trans kw2
  have k4412 := (fr_k G12 (by rw [k442]; decide)).trans k442
  have i512 : (zI S12 5 g).toInt = (L.length : Int) + 1 := by rw [eg12.2.2.1]; exact j5
  have pd12 : zP S12 1 c = some (c + 2) := (ec12.2.2.2.1 1).trans pd2
  obtain ⟨-, hf⟩ := m_chkE hf
  obtain ⟨v15, e_v15, hf⟩ := m_bndE hf
  have t_v15 : v15.toInt = (zI S12 5 g).toInt - 1 := ti_sub e_v15 rfl (show (1 : Int32).toInt = 1 from rfl) (by omega) (by omega)
  obtain ⟨-, hf⟩ := m_chkE hf
  obtain ⟨⟨r17, S18⟩, h_r17, hf⟩ := m_cal2E hf
  dsimp only at hf
  obtain ⟨e18, q17⟩ := p_tagC (t := c) ((eg12.2.2.2.1 4).trans q4) ⟨by omega, by omega⟩ (by rw [e6.2.2.2.2.1, e_S2, show v15.toInt.toNat = L.length by omega]; exact b1) h_r17
  rw [e18, q17] at hf
  obtain ⟨-, hf⟩ := m_chkE hf
  replace hf := m_calY hf pd12
  obtain ⟨-, hf⟩ := m_chkE hf
  obtain ⟨⟨r23, S24⟩, h_r23, hf⟩ := m_cal2E hf
  dsimp only at hf
  obtain ⟨r', hr'⟩ := rwl_ex T12 kw12
  obtain ⟨T24, F24, R24⟩ := p_copyFrom T12 (show (44 : Nat) ≠ c + 2 by omega) (by rw [rc_new (show 109 ≤ c + 2 by omega)]; decide) (by omega) cw hw12 kw12 k4412 (by rw [hr'.1]; omega) h_r23
  dsimp only at T24 F24 R24
  have G24 := fr_r F24 kw12
  cases hf
  try dsimp only
  have kg12 : zK S12 g < 18 := by rw [eg12.1, e_S2]; show zK SX g < 18; rw [kgX]; decide
  have eg24 := fr_e G24 kg12 (show ¬ g = c + 2 by omega)
  have kr12 : zK S12 (c + 1) = 6 := (fr_k G12 (by rw [kr2]; decide)).trans kr2
  refine ⟨eqc_rl (fr_e G24 (by rw [kr12]; decide) (show ¬ c + 1 = c + 2 by omega)) kr12 R12, R24, ?_, fr_t (fr_m F2 (fun a _ e => Or.inl e)) (fr_t (fr_m G12 (fun a _ e => Or.inr (Or.inl e))) (fr_m G24 (fun a _ e => Or.inr (Or.inr e)))), fun j hj => ?_⟩
  · show (zI S24 5 g).toInt = _
    rw [eg24.2.2.1, eg12.2.2.1]; exact j5
  · show zI S24 j g = _
    rw [eg24.2.2.1, eg12.2.2.1, e_S2]; exact zI_j hj
/-- a tag more -/
theorem p_putTag (hC : CG S) (hg : GG g g') (h : TGk S g L) (hl : L.length < 8) (hu : RWL S 43 u) (hw : RWL S 44 w) (lu : u.length ≤ 12) (lw : w.length ≤ 96) (cu : ∀ i, 0 ≤ wA u i ∧ wA u i ≤ 65535) (cw : ∀ i, 0 ≤ wA w i ∧ wA w i ≤ 65535) (hf : d_X1_putTag g 43 44 S = some o) : CG o.2 ∧ TGk o.2 g (L ++ [(u, w)]) ∧ FR (TGf S g) S o.2 ∧ ∀ j, j ≠ 5 → zI o.2 j g = zI S j g := by
  have hgr := gg_g hg
  have hX := hC.2.2.1
  obtain ⟨⟨kg, p0, p1, p2, p4, p7⟩, ⟨k1, k2', k3, k4, k5, k6, k7⟩, -⟩ := fx_g hX hgr
  have hb : (g = 35 ∧ g' = 99) ∨ (g = 99 ∧ g' = 35) := hg
  have k43 : zK S 43 = 6 := fx_k hX (by decide) (by decide)
  have k44 : zK S 44 = 6 := fx_k hX (by decide) (by decide)
  obtain ⟨T', R', -⟩ := ok_of (t_d_X1_putTag (SZ := S) hC.1 (rp_0 S) kg k43 k44 (by rw [hu.1]; omega) (by rw [hw.1]; omega) (by decide)) hf
  have Z' : TZ o.2 := R'.2.1 hC.2.1
  obtain ⟨SX, c, GX, hf2⟩ := pt_0 hC hgr h hl hf
  obtain ⟨r1, r2, i5, FO, iO⟩ := pt_38 hC hg h hl GX hu hw lu lw cu cw hf2
  obtain ⟨⟨b1, b2⟩, FX, old, ⟨c1, c2, c3, c4, c5, c6⟩, TX⟩ := GX
  have G := gm_of hC hgr
  have FA : FR (fun a => a = g ∨ a = g + 6 ∨ a = c + 1 ∨ a = c + 2) S o.2 := fr_t (fr_m FX (fun a _ e => Or.inr (Or.inl e))) (fr_m FO (fun a _ e => by omega))
  have FT : FR (TGf S g) S o.2 := fr_m FA (fun a ha e => by
    rcases e with e | e | e | e
    · exact Or.inl e
    · exact Or.inr (Or.inl e)
    · rcases old with oo | oo
      · exact Or.inr (Or.inr ⟨_, c, oo, Or.inl e⟩)
      · rw [e] at ha; omega
    · rcases old with oo | oo
      · exact Or.inr (Or.inr ⟨_, c, oo, Or.inr e⟩)
      · rw [e] at ha; omega)
  have eB : ∀ a, zK S a < 18 → a ≠ g → a ≠ g + 6 → a ≠ c + 1 → a ≠ c + 2 → zB o.2 a = zB S a := fun a ha n1 n2 n3 n4 => (fr_e FA ha (by omega)).2.2.2.2.1
  have k6X : zK SX (g + 6) = 17 := (fr_k FX (by rw [k6]; decide)).trans k6
  have eB6 : zB o.2 (g + 6) = zB SX (g + 6) := (fr_e FO (by rw [k6X]; decide) (by omega)).2.2.2.2.1
  have kc' : zK o.2 c = 10 ∧ zP o.2 0 c = some (c + 1) ∧ zP o.2 1 c = some (c + 2) ∧ zK o.2 (c + 1) = 6 ∧ zK o.2 (c + 2) = 6 := by
    have q := (FO c (by rw [c2]; decide)).1
    exact ⟨q.1.trans c2, (q.2.2.1 (by rw [c2]; rfl) 0).trans c3, (q.2.2.1 (by rw [c2]; rfl) 1).trans c4, (fr_k FO (by rw [c5]; decide)).trans c5, (fr_k FO (by rw [c6]; decide)).trans c6⟩
  have inj : ∀ i, i ≠ L.length → ∀ t, zB S (g + 6) i = some t → t ≠ c := fun i hi t ht e => by
    rcases old with oo | oo
    · rw [e] at ht
      exact hi ((hC.2.2.2.2.2 g g' hg i c ht).1 _ oo).symm
    · have := (G.2 i t ht).2.1
      rw [e] at this
      omega
  have Gg : GM o.2 g := by
    refine ⟨fun i z hz => ?_, fun i z hz => ?_⟩
    · rw [eB (g + 5) (by rw [k5]; decide) (by omega) (by omega) (by omega) (by omega)] at hz
      obtain ⟨d1, d2, d3, d4⟩ := G.1 i z hz
      exact ⟨d1, (fr_k FA (by rw [d2]; decide)).trans d2, ((FA z (by rw [d2]; decide)).1.2.2.1 (by rw [d2]; rfl) 6).trans d3, (fr_k FA (by rw [d4]; decide)).trans d4⟩
    · rw [eB6] at hz
      by_cases e : i = L.length
      · rw [e, b1] at hz
        cases hz
        exact ⟨c1, kc'⟩
      · rw [b2 i e] at hz
        obtain ⟨d1, d2, d3, d4, d5, d6⟩ := G.2 i z hz
        have q := (FA z (by rw [d2]; decide)).1.2.2.1 (by rw [d2]; rfl)
        exact ⟨d1, (fr_k FA (by rw [d2]; decide)).trans d2, (q 0).trans d3, (q 1).trans d4, (fr_k FA (by rw [d5]; decide)).trans d5, (fr_k FA (by rw [d6]; decide)).trans d6⟩
  obtain ⟨⟨kg', -⟩, ⟨-, -, -, -, k5', k6', -⟩, -⟩ := fx_g hX (gg_g (gg_s hg))
  have e5' := eB (g' + 5) (by rw [k5']; decide) (by omega) (by omega) (by omega) (by omega)
  have e6' := eB (g' + 6) (by rw [k6']; decide) (by omega) (by omega) (by omega) (by omega)
  have Gg' : GM o.2 g' := gm_fr hX (gg_g (gg_s hg)) (gm_of hC (gg_g (gg_s hg))) FA e5' e6'
  have tdx := hC.2.2.2.2.2
  have nO : ∀ j, zB S (g' + 6) j ≠ some c := fun j e => by
    rcases old with oo | oo
    · exact (tdx g g' hg _ c oo).2 j e
    · have := ((gm_of hC (gg_g (gg_s hg))).2 j c e).2.1
      omega
  have TD : TDX o.2 := by
    have one : ∀ i a, zB o.2 (g + 6) i = some a → (∀ j, zB o.2 (g + 6) j = some a → j = i) ∧ ∀ j, zB o.2 (g' + 6) j ≠ some a := fun i a ha => by
      rw [eB6] at ha ⊢
      rw [e6']
      by_cases e : i = L.length
      · rw [e, b1] at ha
        cases ha
        refine ⟨fun j hj => ?_, nO⟩
        by_cases e2 : j = L.length
        · rw [e2, e]
        · rw [b2 j e2] at hj
          exact absurd rfl (inj j e2 _ hj)
      · rw [b2 i e] at ha
        refine ⟨fun j hj => ?_, (tdx g g' hg i a ha).2⟩
        by_cases e2 : j = L.length
        · rw [e2, b1] at hj
          cases hj
          exact absurd rfl (inj i e _ ha)
        · rw [b2 j e2] at hj
          exact (tdx g g' hg i a ha).1 j hj
    have two : ∀ i a, zB o.2 (g' + 6) i = some a → (∀ j, zB o.2 (g' + 6) j = some a → j = i) ∧ ∀ j, zB o.2 (g + 6) j ≠ some a := fun i a ha => by
      refine ⟨fun j hj => ?_, fun j hj => (one j a hj).2 i ha⟩
      rw [e6'] at ha hj
      exact (tdx g' g (gg_s hg) i a ha).1 j hj
    intro q q' hq
    have hq2 : (q = 35 ∧ q' = 99) ∨ (q = 99 ∧ q' = 35) := hq
    by_cases e : q = g
    · have e2 : q' = g' := by omega
      rw [e, e2]; exact one
    · have e1 : q = g' := by omega
      have e2 : q' = g := by omega
      rw [e1, e2]; exact two
  have CG' : CG o.2 := by
    refine ⟨T', Z', fix_fr hX FA, ?_, ?_, TD⟩
    · rcases hb with ⟨e, e2⟩ | ⟨e, e2⟩
      · rw [e] at Gg; exact Gg
      · rw [e2] at Gg'; exact Gg'
    · rcases hb with ⟨e, e2⟩ | ⟨e, e2⟩
      · rw [e2] at Gg'; exact Gg'
      · rw [e] at Gg; exact Gg
  have egS := fr_e FX (by rw [kg]; decide) (show ¬ g = g + 6 by omega)
  have len : ((L ++ [(u, w)]).length : Int) = (L.length : Int) + 1 := by rw [List.length_append]; rfl
  refine ⟨CG', ⟨by rw [i5, len], by omega, fun i hi => ?_⟩, FT, fun j hj => by rw [iO j hj, egS.2.2.1]⟩
  by_cases e : i = L.length
  · rw [e, eB6, nmL_n.1, nmL_n.2]
    exact ⟨c, b1, r1, r2⟩
  · have hi2 : i < L.length := by omega
    obtain ⟨n1, n2⟩ := nmL_o (L := L) (u := u) (w := w) (i := (i : Int)) (by omega) (by omega)
    rw [n1, n2, eB6, b2 i e]
    obtain ⟨t, t1, t2, t3⟩ := h.2.2 i hi2
    obtain ⟨d1, d2, d3, d4, d5, d6⟩ := G.2 i t t1
    have ntc := inj i e t t1
    have x1 : t + 1 ≠ c := fun e => by
      rcases old with oo | oo
      · have := (G.2 _ _ oo).2.1; rw [← e, d5] at this; omega
      · rw [← e, d5] at oo; omega
    have x2 : t ≠ c + 1 := fun e => by
      rcases old with oo | oo
      · have := (G.2 _ _ oo).2.2.2.2.1; rw [← e, d2] at this; omega
      · rw [← e, d2] at oo; omega
    exact ⟨t, t1, eqc_rl (fr_e FA (by rw [d5]; decide) (by omega)) d5 t2, eqc_rl (fr_e FA (by rw [d6]; decide) (by omega)) d6 t3⟩
end TGP
end
section
/-- a text of a position and the position -/
noncomputable def FENo (V : Int → Int) (n : Int) (P : PO) : Prop := FENp V n (om P) (osd P) (ort P) (ops P) (onb P) ∧ MBd (om P) ∧ KU (om P) 0 (okw P) ∧ KU (om P) 1 (okb P) ∧ ∀ s, ¬ (0 ≤ s ∧ s < 64) → om P s = 0
section FNO
variable {V : Int → Int} {n : Int} {P Q : PO} {m : Int → Int} {sd rt ps nb : Int}
theorem fen_u {m' : Int → Int} {sd' rt' ps' nb' : Int} (h : FENp V n m sd rt ps nb) (g : FENp V n m' sd' rt' ps' nb') : m = m' ∧ sd = sd' ∧ rt = rt' ∧ ps = ps' ∧ nb = nb' := by
  obtain ⟨p1, h1, -, h3, -, -, h5, -, -, h7, -, -, -, -, h9, -⟩ := h
  obtain ⟨q1, g1, -, g3, -, -, g5, -, -, g7, -, -, -, -, g9, -⟩ := g
  rw [h1] at g1
  have e := Option.some.inj g1
  have e1 : p1 = q1 := congrArg Prod.fst e
  have e2 : m = m' := congrArg Prod.snd e
  subst e1
  exact ⟨e2, by omega, by rw [h5, g5], by rw [h7, g7], by rw [h9, g9]⟩
theorem ku_u {w k k' : Int} (h : KU m w k) (g : KU m w k') : k = k' := g.2.2.2 k h.1 h.2.1 h.2.2.1
theorem fno_u (h : FENo V n P) (g : FENo V n Q) : P = Q := by
  obtain ⟨h1, -, h3, h4, -⟩ := h
  obtain ⟨g1, -, g3, g4, -⟩ := g
  obtain ⟨e1, e2, e3, e4, e5⟩ := fen_u h1 g1
  rw [← e1] at g3 g4
  have e6 := ku_u h3 g3
  have e7 := ku_u h4 g4
  obtain ⟨a1, a2, a3, a4, a5, a6, a7⟩ := P
  obtain ⟨b1, b2, b3, b4, b5, b6, b7⟩ := Q
  have f1 : a1 = b1 := e1
  have f2 : a2 = b2 := e2
  have f3 : a3 = b3 := e3
  have f4 : a4 = b4 := e4
  have f5 : a7 = b7 := e5
  have f6 : a5 = b5 := e6
  have f7 : a6 = b6 := e7
  subst f1; subst f2; subst f3; subst f4; subst f5; subst f6; subst f7
  rfl
theorem fno_mk {kw kb : Int} (h : FENp V n m sd rt ps nb) (hM : MBd m) (hw : KI m kw 0) (hb : KI m kb 1) (ho : ∀ s, ¬ (0 ≤ s ∧ s < 64) → m s = 0) : FENo V n (m, sd, rt, ps, kw, kb, nb) ∧ PGd (m, sd, rt, ps, kw, kb, nb) ∧ 1 ≤ nb ∧ nb ≤ 999 := by
  obtain ⟨p1, h1, -, h3, -, -, h5, -, -, h7, -, -, -, h8, h9, -, hS⟩ := id h
  have rg := rg_rng (V := V) (p := p1 + 3)
  have hP : POS m sd rt ps kw kb := snd_pos (by omega) hM (by rw [h5]; exact ⟨rg.2.2.1, rg.2.2.2⟩) (by rw [h7]; exact ⟨ps_rng.2.2.1, ps_rng.2.2.2⟩) hw hb hS
  have nn := num_b (V := V) (p := (psV V ((rgV V (p1 + 3)).1 + 1)).1 + 1 + nd3 V ((psV V ((rgV V (p1 + 3)).1 + 1)).1 + 1) + 1)
  exact ⟨⟨h, hM, hP.2.2.1, hP.2.2.2.1, ho⟩, hP, by omega, by omega⟩
/-- which king's square does not matter: there is one -/
theorem fno_ex (h : FENp V n m sd rt ps nb) (hM : MBd m) (ho : ∀ s, ¬ (0 ≤ s ∧ s < 64) → m s = 0) : ∃ kw kb, FENo V n (m, sd, rt, ps, kw, kb, nb) ∧ PGd (m, sd, rt, ps, kw, kb, nb) ∧ 1 ≤ nb ∧ nb ≤ 999 := by
  obtain ⟨p1, h1, -, h3, -, -, h5, -, -, h7, -, -, -, h8, h9, -, hS⟩ := id h
  obtain ⟨-, ⟨k1, a1⟩, ⟨k2, a2⟩, -⟩ := hS
  have ki : ∀ {w k : Int}, KU m w k → KI m k w := fun hk s _ _ _ => ⟨hk.1, hk.2.1, hk.2.2.1⟩
  exact ⟨k1, k2, fno_mk h hM (ki a1) (ki a2) ho⟩
theorem fno_p (h : FENo V n P) : FENp V n (om P) (osd P) (ort P) (ops P) (onb P) := h.1
end FNO
/-- one tag, read at p: the end, the tags, the position with which the game begins -/
noncomputable def TG1 (ch : Int → Int) (N p : Int) (L : List (List Int × List Int)) (st : PO) (r : Int × List (List Int × List Int) × PO) : Prop := ∃ e u w, TPk ch N p e u w ∧ ¬ RF2 L u w ∧ r.1 = e + 1 ∧ r.2.1 = L ++ [(u, w)] ∧ ((u ≠ strL 0 ∧ r.2.2 = st) ∨ (u = strL 0 ∧ FENo (wA w) (w.length : Int) r.2.2))
/-- the tags of a text -/
noncomputable def hdP (ch : Int → Int) (N : Int) : Nat → Int → List (List Int × List Int) → PO → Option (Int × List (List Int × List Int) × PO)
  | 0, _, _, _ => none
  | k + 1, p, L, st => if ch p = 91 then @dite _ (∃ r, TG1 ch N p L st r) (Classical.propDecidable _) (fun h => hdP ch N k (blk ch (Classical.choose h).1) (Classical.choose h).2.1 (Classical.choose h).2.2) (fun _ => none) else some (p, L, st)
section HDS
variable {ch : Int → Int} {N p : Int} {L : List (List Int × List Int)} {st : PO} {k : Nat} {r r' : Int × List (List Int × List Int) × PO}
theorem tg1_u (h : TG1 ch N p L st r) (g : TG1 ch N p L st r') : r = r' := by
  obtain ⟨e, u, w, h1, -, h3, h4, h5⟩ := h
  obtain ⟨e', u', w', g1, -, g3, g4, g5⟩ := g
  obtain ⟨e1, e2, e3⟩ := tpk_u h1 g1
  subst e1; subst e2; subst e3
  obtain ⟨a, b, c⟩ := r
  obtain ⟨a', b', c'⟩ := r'
  have f1 : a = a' := (show a = e + 1 from h3).trans (show a' = e + 1 from g3).symm
  have f2 : b = b' := (show b = _ from h4).trans (show b' = _ from g4).symm
  have f3 : c = c' := by
    rcases h5 with ⟨h6, h7⟩ | ⟨h6, h7⟩ <;> rcases g5 with ⟨g6, g7⟩ | ⟨g6, g7⟩
    · exact (show c = st from h7).trans (show c' = st from g7).symm
    · exact absurd g6 h6
    · exact absurd h6 g6
    · exact fno_u h7 g7
  subst f1; subst f2; subst f3
  rfl
theorem hd_0 (h : ch p ≠ 91) : hdP ch N (k + 1) p L st = some (p, L, st) := if_neg h
theorem hd_y (h : ch p = 91) (hr : TG1 ch N p L st r) : hdP ch N (k + 1) p L st = hdP ch N k (blk ch r.1) r.2.1 r.2.2 := by
  have h2 : ∃ r, TG1 ch N p L st r := ⟨r, hr⟩
  show (if ch p = 91 then _ else _) = _
  rw [if_pos h, dif_pos h2, tg1_u (Classical.choose_spec h2) hr]
theorem hd_n (h : ch p = 91) (hr : ∀ r, ¬ TG1 ch N p L st r) : hdP ch N (k + 1) p L st = none := by
  show (if ch p = 91 then _ else _) = _
  rw [if_pos h, dif_neg (fun ⟨r, g⟩ => hr r g)]
end HDS
theorem wr_b {ch : Int → Int} {a : Int} (h : ∀ i, 0 ≤ ch i ∧ ch i ≤ 127) : ∀ k i, 0 ≤ wA (wr ch a k) i ∧ wA (wr ch a k) i ≤ 127
  | 0, i => by
    rw [wA_out (by show i < 0 ∨ (0 : Int) ≤ i; omega)]
    decide
  | k + 1, i => wA_bd (wr_b h k) (h _) i
/-- names and values are not too long -/
noncomputable def LBd (L : List (List Int × List Int)) : Prop := ∀ i : Int, 0 ≤ i → i < (L.length : Int) → (nmL L i).length ≤ 12 ∧ (vlL L i).length ≤ 96
theorem lbd_a {L : List (List Int × List Int)} {u w : List Int} (h : LBd L) (hu : u.length ≤ 12) (hw : w.length ≤ 96) : LBd (L ++ [(u, w)]) := fun i i0 i1 => by
  rw [List.length_append] at i1
  have i1 : i < ((L.length + 1 : Nat) : Int) := i1
  by_cases e : i = (L.length : Int)
  · rw [e, nmL_n.1, nmL_n.2]; exact ⟨hu, hw⟩
  · obtain ⟨a, b⟩ := nmL_o (L := L) (u := u) (w := w) i0 (show i < (L.length : Int) by omega)
    rw [a, b]; exact h i i0 (by omega)
/-- the class while it reads tags into game g -/
noncomputable def HSt (S0 S : ZS) (g g' : Nat) (ch : Int → Int) (N p : Int) (st : PO) (L : List (List Int × List Int)) (T : TRa) : Prop := CG S ∧ (GG g g' ∧ FIX S0 ∧ FR (fun a => ¬ KPc S0 g' a) S0 S) ∧ (LW S ch N p ∧ p ≤ N ∧ zP S 3 23 = some g) ∧ (TRc S g T ∧ WT T ∧ tn T = 0) ∧ (BO S (g + 1) st ∧ PGd st ∧ 1 ≤ onb st ∧ onb st ≤ 999) ∧ TGk S g L ∧ LBd L
noncomputable def HSn (S0 S : ZS) (g' : Nat) : Prop := CG S ∧ FR (fun a => ¬ KPc S0 g' a) S0 S
section HSS
variable {S0 S S' : ZS} {g g' : Nat} {ch : Int → Int} {N p q : Int} {st st' : PO} {L L' : List (List Int × List Int)} {T : TRa} {W : Nat → Prop} {u w : List Int} {o : Int32 × ZS} {x1 : Int32}
theorem hs_n (h : HSt S0 S g g' ch N p st L T) : HSn S0 S g' := ⟨h.1, h.2.1.2.2⟩
theorem trc_g (hC : CG S) (hg : g = 35 ∨ g = 99) (h : TRc S g T) (h3 : zI S' 3 g = zI S 3 g) (hE : ∀ a, TCl S g a → a ≠ g → EQc S S' a) : TRc S' g T := by
  obtain ⟨h1, h2, h3', h4⟩ := h
  obtain ⟨⟨kg, -⟩, ⟨-, -, k3, k4, -⟩, -⟩ := fx_g hC.2.2.1 hg
  have ng : ∀ i, nk S (g + 3) (g + 5) i ≠ g ∧ nk S (g + 3) (g + 5) i + 1 ≠ g := fun i => ⟨fun e => by
    have := (nk_nd hC hg i).1
    rw [e, kg] at this
    omega, fun e => by
    have := (nk_nd hC hg i).2.2.1
    rw [e, kg] at this
    omega⟩
  have eB : zB S' (g + 5) = zB S (g + 5) := (hE (g + 5) (Or.inr (Or.inr (Or.inr (Or.inl rfl)))) (by omega)).2.2.2.2.1
  have en : ∀ i, nk S' (g + 3) (g + 5) i = nk S (g + 3) (g + 5) i := fun i => by unfold nk; rw [eB]
  have eF : ∀ j, nF S' j (g + 3) (g + 5) = nF S j (g + 3) (g + 5) := fun j => by
    funext i
    unfold nF
    rw [en i, (hE _ (tc_nk i).1 (ng i).1).2.2.1]
  refine ⟨by unfold cn; rw [h3]; exact h1, fun k k1 k2 => by rw [eB]; exact h2 k k1 k2, by rw [eF 0, eF 2, eF 3]; exact h3', fun k hk => ?_⟩
  obtain ⟨a1, a2, a3⟩ := h4 k hk
  have e1 := hE _ (tc_nk (S := S) (g := g) k).1 (ng k).1
  have e2 := hE _ (tc_nk (S := S) (g := g) k).2 (ng k).2
  rw [eF 0, eF 1, en k]
  exact ⟨a1, ⟨by rw [e1.2.2.1]; exact a2.1, by rw [e1.2.2.1]; exact a2.2⟩, eqc_rl e2 (nk_nd hC hg k).2.2.1 a3⟩
/-- a step within the reader's own cells -/
theorem hs_rd (h : HSt S0 S g g' ch N p st L T) (hL : LW S' ch N q) (hq : q ≤ N) (hF : FR W S S') (hW : ∀ a, W a → WRd a) : HSt S0 S' g g' ch N q st L T := by
  obtain ⟨c, ⟨hg, hX, hF0⟩, ⟨l, -, p3⟩, ⟨tr, hw, h0⟩, ⟨bo, pg⟩, tg, lb⟩ := h
  have hb : (g = 35 ∧ g' = 99) ∨ (g = 99 ∧ g' = 35) := hg
  have nw : ∀ a, ¬ WRd a → ¬ W a := fun a hn hw => hn (hW a hw)
  have k23 := l.2.1.1
  have kl := fun a h1 h2 => fx_l (a := a) c.2.2.1 h1 h2
  refine ⟨cg_rd c hL.1 hF hW, ⟨hg, hX, fr_t hF0 (fr_m hF (fun a _ ha => kp_fix c hg hF0 hX (by have := hW a ha; unfold WRd at this; omega)))⟩, ⟨hL, hq, ((hF 23 (by rw [k23]; decide)).1.2.2.1 (by rw [k23]; rfl) 3).trans p3⟩, ⟨trc_e c (gg_g hg) tr (fun a ha => fr_e hF (tc_lt c (gg_g hg) ha) (nw a (tc_wr c (gg_g hg) ha))), hw, h0⟩, ⟨bo_fr bo hF (nw _ (by unfold WRd; omega)) (nw _ (by unfold WRd; omega)), pg⟩, tgk_fr c (gg_g hg) tg hF ((fr_e hF (kl g (by omega) (by omega)) (nw _ (by unfold WRd; omega))).2.2.1 5) (nw _ (by unfold WRd; omega)) (fun i t ht => ?_), lb⟩
  have := ((gm_of c (gg_g hg)).2 i t ht).1
  exact ⟨nw _ (by unfold WRd; omega), nw _ (by unfold WRd; omega)⟩
theorem hn_rd (h : HSn S0 S g') (hg : GG g g') (hX : FIX S0) (hT : ZT S') (hF : FR W S S') (hW : ∀ a, W a → WRd a) : HSn S0 S' g' := by
  refine ⟨cg_rd h.1 hT hF hW, fr_t h.2 (fr_m hF (fun a _ ha => kp_fix h.1 hg h.2 hX (by have := hW a ha; unfold WRd at this; omega)))⟩
/-- the tag comes into the game -/
theorem rt_158 (h : HSt S0 S g g' ch N p st L T) (hl : L.length < 8) (hu : RWL S 43 u) (hw : RWL S 44 w) (lu : u.length ≤ 12) (lw : w.length ≤ 96) (cu : ∀ i, 0 ≤ wA u i ∧ wA u i ≤ 127) (cw : ∀ i, 0 ≤ wA w i ∧ wA w i ≤ 127) (hf : d_X2_readTag_158 23 S = some o) : o.1.toInt = 1 ∧ HSt S0 o.2 g g' ch N p st (L ++ [(u, w)]) T := by
  obtain ⟨c, ⟨hg, hX, hF0⟩, ⟨l, hpN, p3⟩, ⟨tr, hw', h0⟩, ⟨bo, pg⟩, tg, lb⟩ := h
  have hb : (g = 35 ∧ g' = 99) ∨ (g = 99 ∧ g' = 35) := hg
  have hgr := gg_g hg
  have p6 : zP S 6 23 = some 43 := fx_p c.2.2.1 (by decide)
  have p7 : zP S 7 23 = some 44 := fx_p c.2.2.1 (by decide)
  have G := gm_of c hgr
  have k23 := l.2.1.1
  unfold d_X2_readTag_158 at hf
  obtain ⟨-, hf⟩ := m_chkE hf
  replace hf := m_calY hf p3
  obtain ⟨-, hf⟩ := m_chkE hf
  replace hf := m_calY hf p6
  obtain ⟨-, hf⟩ := m_chkE hf
  replace hf := m_calY hf p7
  obtain ⟨-, hf⟩ := m_chkE hf
  obtain ⟨⟨r5, S6⟩, h_r5, hf⟩ := m_cal2E hf
  dsimp only at hf
  obtain ⟨C6, K6, F6, i6⟩ := p_putTag c hg tg hl hu hw lu lw (fun i => ⟨(cu i).1, Int.le_trans (cu i).2 (by decide)⟩) (fun i => ⟨(cw i).1, Int.le_trans (cw i).2 (by decide)⟩) h_r5
  dsimp only at C6 K6 F6 i6
  have nt : ∀ a, a ≤ 108 → a ≠ g → a ≠ g + 6 → ¬ TGf S g a := fun a ha n1 n2 => by
    rintro (e | e | ⟨i, t, e1, e2⟩)
    · exact n1 e
    · exact n2 e
    · have := (G.2 i t e1).1
      omega
  obtain ⟨-, hf⟩ := m_chkE hf
  cases hf
  try dsimp only
  refine ⟨rfl, C6, ⟨hg, hX, fr_t hF0 (fr_m F6 (fun a _ ha => ?_))⟩, ⟨lw_nd l C6.1 F6 (nt 2 (by decide) (by omega) (by omega)) (nt 23 (by decide) (by omega) (by omega)), hpN, ((F6 23 (by rw [k23]; decide)).1.2.2.1 (by rw [k23]; rfl) 3).trans p3⟩, ⟨trc_g c hgr tr (i6 3 (by decide)) (fun a ha hne => fr_e F6 (tc_lt c hgr ha) ?_), hw', h0⟩, ⟨bo_fr bo F6 (nt _ (by omega) (by omega) (by omega)) (nt _ (by omega) (by omega) (by omega)), pg⟩, K6, lbd_a lb lu lw⟩
  · rcases ha with e | e | ⟨i, t, e1, e2⟩
    · exact kp_fix c hg hF0 hX (by omega)
    · exact kp_fix c hg hF0 hX (by omega)
    · obtain ⟨-, t1, t2⟩ := kp_tag c hg hF0 hX e1
      rcases e2 with e | e <;> rw [e]
      · exact t1
      · exact t2
  · rintro (e | e | ⟨i, t, e1, e2⟩)
    · exact hne e
    · rcases ha with d | d | d | d | ⟨j, m, d1, d2⟩
      · exact hne d
      · omega
      · omega
      · omega
      · have := (G.1 j m d1).1
        omega
    · obtain ⟨b1, b2, -, -, b5, b6⟩ := G.2 i t e1
      rcases ha with d | d | d | d | ⟨j, m, d1, d2⟩
      · exact hne d
      · omega
      · omega
      · omega
      · obtain ⟨m1, m2, -, m4⟩ := G.1 j m d1
        rcases d2 with d | d <;> rcases e2 with e | e
        · rw [← d, e, b5] at m2; omega
        · rw [← d, e, b6] at m2; omega
        · have : m = t := by omega
          rw [this, b2] at m2; omega
        · have : m = t + 1 := by omega
          rw [this, b5] at m2; omega
end HSS
end
section
section RTC
variable {S0 S S' : ZS} {g g' : Nat} {ch : Int → Int} {N p q : Int} {st st' : PO} {L L' : List (List Int × List Int)} {T : TRa} {W : Nat → Prop} {u w : List Int} {o : Int32 × ZS} {x1 x2 : Int32}
theorem gri_lw {S1 : ZS} (h : GRi S1 S 23 2 43 44 ch N q u w) (hN : 0 ≤ N) (hcb : ∀ i, 0 ≤ ch i ∧ ch i ≤ 127) : LW S ch N q := by
  obtain ⟨k2, kt, -⟩ := gri_k h
  obtain ⟨hc, hn⟩ := gri_t h
  exact ⟨h.1, ⟨k2, (gri_P h).1, kt⟩, ⟨hc, hn, hN, h.2.2.2.2.1.2.2⟩, hcb, h.2.2.2.2.2.1, h.2.2.2.2.2.2.1⟩
theorem hn_no (h : HSn S0 S g') (hg : GG g g') (hX : FIX S0) (h1 : 0 ≤ x1.toInt ∧ x1.toInt ≤ 10) (h2 : 0 ≤ x2.toInt ∧ x2.toInt ≤ 100000) (l : LW S ch N q) (hf : f_X2_refuse 23 x1 x2 S = some o) : o.1.toInt = 0 ∧ HSn S0 o.2 g' ∧ LW o.2 ch N q := by
  obtain ⟨a1, a2, a3⟩ := lw_no l h1 h2 hf
  exact ⟨a1, hn_rd h hg hX a2.1 a3 (fun a ha => by unfold WRd; omega), a2⟩
theorem rt_111 (h : HSn S0 S g') (hg : GG g g') (hX : FIX S0) (h1 : 0 ≤ x1.toInt ∧ x1.toInt ≤ 100000) (l : LW S ch N q) (hf : d_X2_readTag_111 23 x1 S = some o) : o.1.toInt = 0 ∧ HSn S0 o.2 g' ∧ LW o.2 ch N q := by
  unfold d_X2_readTag_111 at hf
  obtain ⟨-, hf⟩ := m_chkE hf
  obtain ⟨⟨r1, S1⟩, h_r1, hf⟩ := m_calE hf
  dsimp only at hf
  obtain ⟨-, hf⟩ := m_chkE hf
  obtain ⟨-, hf⟩ := m_chkE hf
  have g1 := hn_no h hg hX (by decide) h1 l h_r1
  cases hf
  exact g1
/-- the position of a tag FEN -/
theorem hs_fen (h : HSt S0 S g g' ch N p st L T) (hu : RWL S 43 u) (hw : RWL S 44 w) (cw : ∀ i, 0 ≤ wA w i ∧ wA w i ≤ 127) (hf : f_X5_readInto 32 (g + 1) 44 S = some o) : (o.1.toInt = 1 ∧ ∃ st', FENo (wA w) (w.length : Int) st' ∧ HSt S0 o.2 g g' ch N p st' L T ∧ RWL o.2 43 u ∧ RWL o.2 44 w) ∨ (o.1.toInt = 0 ∧ (∀ st', ¬ FENo (wA w) (w.length : Int) st') ∧ HSn S0 o.2 g' ∧ LW o.2 ch N p) := by
  obtain ⟨c, ⟨hg, hX, hF0⟩, ⟨l, hpN, p3⟩, ⟨tr, hw', h0⟩, ⟨bo, pg⟩, tg, lb⟩ := h
  have hb : (g = 35 ∧ g' = 99) ∨ (g = 99 ∧ g' = 35) := hg
  have hgr := gg_g hg
  have k32 : zK S 32 = 5 := fx_k c.2.2.1 (by decide) (by decide)
  have k43 : zK S 43 = 6 := fx_k c.2.2.1 (by decide) (by decide)
  have k44 : zK S 44 = 6 := fx_k c.2.2.1 (by decide) (by decide)
  have k23 := l.2.1.1
  have G := gm_of c hgr
  obtain ⟨⟨kg, -⟩, ⟨kb, ka, k3, k4, k5, k6, -⟩, pb, -⟩ := fx_g c.2.2.1 hgr
  have T' : ZT o.2 := (ok_of (t_f_X5_readInto (SZ := S) c.1 (a7_0 S) k32 kb k44 (by decide)) hf).1
  have PF := pf_X5_readInto (x := 32) (bb := g + 1) rfl rfl rfl hf (by
    show va_up (zP S) 0 (va_up (zP S 0) 32 (some 44)) 0 (g + 1) = _
    rw [va_up_self, va_up_ne _ _ (by omega)]
    exact pb)
  have T1 : ZT (zsP S 0 32 (some 44)) := zt_P c.1 k32 (by decide) (Or.inr ⟨k44, rfl⟩) ⟨Nat.zero_le _, by decide⟩
  have T2 : ZT (zsI (zsP S 0 32 (some 44)) 1 32 0) := zt_I T1 k32 (by decide) (show (0 : Int) ≤ (0 : Int32).toInt ∧ (0 : Int32).toInt ≤ (90100 : Int) by decide)
  have F : FR (fun a => a = 32 ∨ a = g + 1 ∨ a = g + 2) S o.2 := fr_t (fr_m (fr_P (by rw [k32]; rfl) rfl) (fun a _ e => Or.inl e)) (fr_t (fr_m (fr_I rfl) (fun a _ e => Or.inl e)) (fr_pf T2 ka PF))
  have kz : ∀ a, zK S a < 18 → (a = 32 ∨ a = g + 1 ∨ a = g + 2) → zK S a = 5 ∨ zK S a = 0 ∨ zK S a = 14 := fun a _ e => by
    rcases e with e | e | e <;> rw [e]
    · exact Or.inl k32
    · exact Or.inr (Or.inl kb)
    · exact Or.inr (Or.inr ka)
  have Z' : TZ o.2 := tz_k c.1 c.2.1 F (fun a ha e => by have := kz a ha e; omega)
  have C' : CG o.2 := cg_w c T' Z' F (by omega) (by omega) (by omega) (by omega)
  have F' : FR (fun a => ¬ KPc S0 g' a) S0 o.2 := fr_t hF0 (fr_m F (fun a _ e => kp_fix c hg hF0 hX (by omega)))
  have l' : LW o.2 ch N p := lw_nd l T' F (by omega) (by omega)
  rcases p_readInto c.1 k32 kb pb ka k44 (by decide) (funext hw.2) cw hw.1 hf with ⟨a1, -, m, sd, rt, ps, nb, a3, a4⟩ | ⟨a1, a2⟩
  · obtain ⟨b1, b2, b3, b4, b5, b6, b7, b8⟩ := a4
    have ho : ∀ s, ¬ (0 ≤ s ∧ s < 64) → m s = 0 := fun s hs => by
      rw [← b1]
      unfold mCb
      rw [if_neg hs]
    obtain ⟨d1, d2, d3⟩ := fno_mk a3 b2 b7 b8 ho
    refine Or.inl ⟨a1, _, d1, ⟨C', ⟨hg, hX, F'⟩, ⟨l', hpN, ((F 23 (by rw [k23]; decide)).1.2.2.1 (by rw [k23]; rfl) 3).trans p3⟩, ⟨trc_e c hgr tr (fun a ha => fr_e F (tc_lt c hgr ha) (fun e => ?_)), hw', h0⟩, ⟨⟨⟨(fr_k F (by rw [kb]; decide)).trans kb, ((F (g + 1) (by rw [kb]; decide)).1.2.2.1 (by rw [kb]; rfl) 0).trans pb, (fr_k F (show zK S (g + 1 + 1) < 18 by rw [ka]; decide)).trans ka⟩, b1, b3, b4, b5, rfl, rfl, b6⟩, d2, d3⟩, tgk_fr c hgr tg F ((fr_e F (show zK S g < 18 by rw [kg]; decide) (by omega)).2.2.1 5) (by omega) (fun i t ht => ?_), lb⟩, eqc_rl (fr_e F (by rw [k43]; decide) (by omega)) k43 hu, eqc_rl (fr_e F (by rw [k44]; decide) (by omega)) k44 hw⟩
    · rcases ha with d | d | d | d | ⟨j, n, e1, e2⟩
      · omega
      · omega
      · omega
      · omega
      · have := (G.1 j n e1).1
        omega
    · have := (G.2 i t ht).1
      omega
  · exact Or.inr ⟨a1, fun st' hs => a2 _ _ _ _ _ hs.1, ⟨C', F'⟩, l'⟩
/-- what a tag of the class leaves -/
noncomputable def RTgo (S0 : ZS) (g g' : Nat) (ch : Int → Int) (N p : Int) (st : PO) (L : List (List Int × List Int)) (T : TRa) (o : Int32 × ZS) : Prop := (∃ r, TG1 ch N p L st r ∧ o.1.toInt = 1 ∧ HSt S0 o.2 g g' ch N r.1 r.2.2 r.2.1 T) ∨ ((∀ r, ¬ TG1 ch N p L st r) ∧ o.1.toInt = 0 ∧ HSn S0 o.2 g' ∧ ∃ q, LW o.2 ch N q)
theorem rt_19 (h : HSn S0 S g') (l : LW S ch N q) (hn : ∀ r, ¬ TG1 ch N p L st r) (hf : d_X2_readTag_19 S = some o) : RTgo S0 g g' ch N p st L T o := by
  unfold d_X2_readTag_19 at hf
  obtain ⟨-, hf⟩ := m_chkE hf
  cases hf
  exact Or.inr ⟨hn, rfl, h, q, l⟩
theorem p_readTagC (h : HSt S0 S g g' ch N p st L T) (h91 : ch p = 91) (hf : d_X2_readTag 23 S = some o) : RTgo S0 g g' ch N p st L T o := by
  have hf : d_X2_readTag_0 23 S = some o := hf
  obtain ⟨c, ⟨hg, hX, hF0⟩, ⟨l, hpN, p3⟩, ⟨tr, hw', h0⟩, ⟨bo, pg⟩, tg, lb⟩ := id h
  have hb : (g = 35 ∧ g' = 99) ∨ (g = 99 ∧ g' = 35) := hg
  have hgr := gg_g hg
  have k43 : zK S 43 = 6 := fx_k c.2.2.1 (by decide) (by decide)
  have k44 : zK S 44 = 6 := fx_k c.2.2.1 (by decide) (by decide)
  have p6 : zP S 6 23 = some 43 := fx_p c.2.2.1 (by decide)
  have p7 : zP S 7 23 = some 44 := fx_p c.2.2.1 (by decide)
  obtain ⟨-, ⟨k23, p2, k2⟩, ⟨hc, hN, hn⟩, hcb, h4, hp⟩ := id l
  obtain ⟨u0, hu0⟩ := rwl_ex c.1 k43
  obtain ⟨w0, hw0⟩ := rwl_ex c.1 k44
  have G0 : GRi S S 23 2 43 44 ch N p u0 w0 := ⟨c.1, grf_0, ⟨k23, p2, p6, p7⟩, ⟨k2, k43, k44, rfl, rfl, by decide, by decide, by decide⟩, ⟨hc, hN, hn.2⟩, h4, hp, hu0, hw0⟩
  have out : ∀ i, N ≤ i → ch i = 0 := fun i hi => lw_out l hi
  have pN : p < N := Int.not_le.1 (fun e => by have := out p e; omega)
  have toH : ∀ (S' : ZS) (q : Int) (u w : List Int), GRi S S' 23 2 43 44 ch N q u w → q ≤ N → HSt S0 S' g g' ch N q st L T := fun S' q u w G hq => hs_rd h (gri_lw G hn.1 hcb) hq (fr_g G.2.1 k43 k44) (fun a ha => by unfold WRd; omega)
  have toN : ∀ (S' : ZS) (q : Int) (u w : List Int), GRi S S' 23 2 43 44 ch N q u w → HSn S0 S' g' ∧ LW S' ch N q := fun S' q u w G => ⟨hn_rd (hs_n h) hg hX G.1 (fr_g G.2.1 k43 k44) (fun a ha => by unfold WRd; omega), gri_lw G hn.1 hcb⟩
  have noF : ∀ f, TPf ch N p f → ∀ r, ¬ TG1 ch N p L st r := fun f hF r ⟨e, u, w, a, _⟩ => tp_x hF a
  have noR : ∀ e u w, TPk ch N p e u w → RF2 L u w → ∀ r, ¬ TG1 ch N p L st r := fun e u w hk hR r ⟨e', u', w', a1, a2, _⟩ => by
    obtain ⟨-, e2, e3⟩ := tpk_u hk a1
    subst e2; subst e3
    exact a2 hR
  have z0 : (0 : Int32).toInt = 0 := rfl
  unfold d_X2_readTag_0 at hf
  obtain ⟨-, hf⟩ := m_chkE hf
  obtain ⟨-, hf⟩ := m_chkE hf
  obtain ⟨⟨r2, S3⟩, h_r2, hf⟩ := m_cal2E hf
  dsimp only at hf
  obtain ⟨a, b, n1, n2, G3, n4⟩ := p_readName G0 (by omega) hcb h_r2
  dsimp only at G3 n4
  have aN : a ≤ N := Int.not_lt.1 (fun e => by
    have := n1.2.1 N (by omega) e
    have := out N (Int.le_refl _)
    omega)
  have bN : b ≤ N := Int.not_lt.1 (fun e => by
    have := n2.2.1 N aN e
    rw [out N (Int.le_refl _)] at this
    unfold nmC isL isD at this
    omega)
  rcases m_ifE hf with ⟨c1, hf⟩ | ⟨c1, hf⟩
  · skip
    replace c1 := ti_eqP (a := r2) (b := (0 : Int32)) c1 rfl (show (0 : Int32).toInt = 0 from rfl)
    rcases n4 with ⟨-, n5⟩ | ⟨n5, -⟩
    · omega
    · exact rt_19 (toN _ _ _ _ G3).1 (toN _ _ _ _ G3).2 (noF a ⟨a, b, n1, n2, Or.inl ⟨n5, rfl⟩⟩) hf
  · skip
    replace c1 := ti_eqN (a := r2) (b := (0 : Int32)) c1 rfl (show (0 : Int32).toInt = 0 from rfl)
    have ab : a < b := by
      rcases n4 with ⟨n5, -⟩ | ⟨-, n5, -⟩
      · exact n5
      · omega
    obtain ⟨-, hf⟩ := m_chkE hf
    obtain ⟨⟨r7, S8⟩, h_r7, hf⟩ := m_cal2E hf
    dsimp only at hf
    obtain ⟨q, m1, m2, m3⟩ := p_readValue G3 bN hcb h_r7
    dsimp only at m3
    rcases m_ifE hf with ⟨c2, hf⟩ | ⟨c2, hf⟩
    · skip
      replace c2 := ti_eqP (a := r7) (b := (0 : Int32)) c2 rfl (show (0 : Int32).toInt = 0 from rfl)
      rcases m3 with ⟨m4, m5, m6, -⟩ | ⟨m4, m5, m6⟩
      · exact rt_19 (toN _ _ _ _ m5).1 (toN _ _ _ _ m5).2 (noF q ⟨a, b, n1, n2, Or.inr ⟨ab, q, m1, Or.inl ⟨m4, rfl⟩⟩⟩) hf
      · have mf : (vlP ch N 2001 (q + 1) []).1 = false := by
          rcases m6 with ⟨-, m7⟩ | ⟨m7, -⟩
          · have m7 : r7.toInt = 1 := m7
            omega
          · exact m7
        exact rt_19 (toN _ _ _ _ m5).1 (toN _ _ _ _ m5).2 (noF _ ⟨a, b, n1, n2, Or.inr ⟨ab, q, m1, Or.inr ⟨m4, Or.inl ⟨mf, rfl⟩⟩⟩⟩) hf
    · skip
      replace c2 := ti_eqN (a := r7) (b := (0 : Int32)) c2 rfl (show (0 : Int32).toInt = 0 from rfl)
      obtain ⟨m4, G8, mt⟩ : ch q = 34 ∧ GRi S S8 23 2 43 44 ch N (vlP ch N 2001 (q + 1) []).2.1 (wr ch a (b - a).toNat) (vlP ch N 2001 (q + 1) []).2.2 ∧ (vlP ch N 2001 (q + 1) []).1 = true := by
        rcases m3 with ⟨-, -, m6, -⟩ | ⟨m4, m5, m6⟩
        · omega
        · refine ⟨m4, m5, ?_⟩
          rcases m6 with ⟨m7, -⟩ | ⟨-, m7, -⟩
          · exact m7
          · have m7 : r7.toInt = 0 := m7
            omega
      obtain ⟨u, hu⟩ : ∃ u, wr ch a (b - a).toNat = u := ⟨_, rfl⟩
      obtain ⟨w, hw⟩ : ∃ w, (vlP ch N 2001 (q + 1) []).2.2 = w := ⟨_, rfl⟩
      have cu : ∀ i, 0 ≤ wA u i ∧ wA u i ≤ 127 := by rw [← hu]; exact wr_b hcb _
      have cw : ∀ i, 0 ≤ wA w i ∧ wA w i ≤ 127 := by
        rw [← hw]
        exact vl_b hcb 2001 (q + 1) [] (fun i => by rw [wA_out (by show i < 0 ∨ (0 : Int) ≤ i; omega)]; decide)
      rw [hu, hw] at G8
      obtain ⟨-, hf⟩ := m_chkE hf
      obtain ⟨⟨r11, S11c⟩, h_r11, hf⟩ := m_calE hf
      dsimp only at hf
      obtain ⟨e, d1, G11, d2⟩ := gri_bl G8 h_r11
      dsimp only at G11
      obtain ⟨P2, -, -⟩ := gri_P G11
      obtain ⟨hc11, -⟩ := gri_t G11
      have h411 := G11.2.2.2.2.2.1
      have he := G11.2.2.2.2.2.2.1
      have tk : ch e = 93 → TPk ch N p e u w := fun h93 => ⟨a, b, q, n1, n2, ab, m1, m4, mt, d1, h93, hu.symm, hw.symm⟩
      obtain ⟨-, hf⟩ := m_chkE hf
      obtain ⟨-, hf⟩ := m_chkE hf
      replace hf := m_calY hf P2
      obtain ⟨-, hf⟩ := m_chkE hf
      obtain ⟨-, hf⟩ := m_chkE hf
      obtain ⟨r13, h_r13, hf⟩ := m_calR hf (fun _ h => ro_X6_at h)
      dsimp only at hf
      have p_r13 := pc_X6_at h_r13
      dsimp only at p_r13
      rw [hc11, h411] at p_r13
      obtain ⟨-, hf⟩ := m_chkE hf
      rcases m_ifE hf with ⟨c3, hf⟩ | ⟨c3, hf⟩
      · skip
        replace c3 := ti_eqP (a := r13) (b := (93 : Int32)) c3 rfl (show (93 : Int32).toInt = 93 from rfl)
        obtain ⟨-, hf⟩ := m_chkE hf
        obtain ⟨v14, e_v14, hf⟩ := m_bndE hf
        have t_v14 : v14.toInt = (zI S11c 4 23).toInt + 1 := ti_add e_v14 rfl (show (1 : Int32).toInt = 1 from rfl) (by omega) (by omega)
        obtain ⟨-, hf⟩ := m_chkE hf
        obtain ⟨S15, e_S15, hf⟩ := m_bndE hf
        have tk := tk (by omega)
        have eN : e + 1 ≤ N := by
          have : ¬ N ≤ e := fun hh => by have := out e hh; omega
          omega
        have G15 : GRi S S15 23 2 43 44 ch N (e + 1) u w := gri_at G11 e_S15 (by omega) (by omega)
        have H15 := toH _ _ _ _ G15 eN
        obtain ⟨c15, -, ⟨l15, -, p315⟩, -, -, tg15, -⟩ := id H15
        have p615 : zP S15 6 23 = some 43 := fx_p c15.2.2.1 (by decide)
        have p715 : zP S15 7 23 = some 44 := fx_p c15.2.2.1 (by decide)
        have p115 : zP S15 1 23 = some 32 := fx_p c15.2.2.1 (by decide)
        have p015 := (fx_g c15.2.2.1 hgr).1.2.1
        have hu15 : RWL S15 43 u := G15.2.2.2.2.2.2.2.1
        have hw15 : RWL S15 44 w := G15.2.2.2.2.2.2.2.2
        have i515 := tg15.1
        have l8 := tg15.2.1
        have ref : RF2 L u w → d_X2_readTag_111 23 (zI S 4 23) S15 = some o → RTgo S0 g g' ch N p st L T o := fun hR hf => by
          obtain ⟨g1, g2, g3⟩ := rt_111 (hs_n H15) hg hX (by omega) l15 hf
          exact Or.inr ⟨noR e u w tk hR, g1, g2, _, g3⟩
        obtain ⟨-, hf⟩ := m_chkE hf
        replace hf := m_calY hf p315
        obtain ⟨-, hf⟩ := m_chkE hf
        rcases m_ifE hf with ⟨c4, hf⟩ | ⟨c4, hf⟩
        · skip
          replace c4 := ti_leP (a := (8 : Int32)) (b := (zI S15 5 g)) c4 (show (8 : Int32).toInt = 8 from rfl) rfl
          exact ref (Or.inl (by omega)) hf
        · skip
          replace c4 := ti_leN (a := (8 : Int32)) (b := (zI S15 5 g)) c4 (show (8 : Int32).toInt = 8 from rfl) rfl
          obtain ⟨-, hf⟩ := m_chkE hf
          replace hf := m_calY hf p615
          obtain ⟨-, hf⟩ := m_chkE hf
          obtain ⟨r18, h_r18, hf⟩ := m_calR hf (fun _ h => ro_X6_size h)
          dsimp only at hf
          have p_r18 := pc_X6_size h_r18
          dsimp only at p_r18
          have q18 : r18.toInt = (u.length : Int) := by rw [p_r18]; exact hu15.1
          obtain ⟨-, hf⟩ := m_chkE hf
          rcases m_ifE hf with ⟨c5, hf⟩ | ⟨c5, hf⟩
          · skip
            replace c5 := ti_ltP (a := (12 : Int32)) (b := r18) c5 (show (12 : Int32).toInt = 12 from rfl) rfl
            exact ref (Or.inr (Or.inl (by omega))) hf
          · skip
            replace c5 := ti_ltN (a := (12 : Int32)) (b := r18) c5 (show (12 : Int32).toInt = 12 from rfl) rfl
            obtain ⟨-, hf⟩ := m_chkE hf
            replace hf := m_calY hf p315
            obtain ⟨-, hf⟩ := m_chkE hf
            replace hf := m_calY hf p615
            obtain ⟨-, hf⟩ := m_chkE hf
            obtain ⟨⟨r22, S23⟩, h_r22, hf⟩ := m_cal2E hf
            dsimp only at hf
            obtain ⟨e23, b22, q22⟩ := p_hasTag (tgk_c c15 hgr tg15) hu15 (fun i i0 i1 => by have := (lb i i0 i1).1; omega) h_r22
            dsimp only at e23 b22 q22
            rw [e23] at hf
            rcases m_ifE hf with ⟨c6, hf⟩ | ⟨c6, hf⟩
            · skip
              replace c6 := ti_eqP (a := r22) (b := (0 : Int32)) c6 rfl (show (0 : Int32).toInt = 0 from rfl)
              obtain ⟨-, hf⟩ := m_chkE hf
              replace hf := m_calY hf p715
              obtain ⟨-, hf⟩ := m_chkE hf
              obtain ⟨r27, h_r27, hf⟩ := m_calR hf (fun _ h => ro_X6_size h)
              dsimp only at hf
              have p_r27 := pc_X6_size h_r27
              dsimp only at p_r27
              have q27 : r27.toInt = (w.length : Int) := by rw [p_r27]; exact hw15.1
              obtain ⟨-, hf⟩ := m_chkE hf
              rcases m_ifE hf with ⟨c7, hf⟩ | ⟨c7, hf⟩
              · skip
                replace c7 := ti_leP (a := r27) (b := (96 : Int32)) c7 rfl (show (96 : Int32).toInt = 96 from rfl)
                obtain ⟨-, hf⟩ := m_chkE hf
                replace hf := m_calY hf p615
                obtain ⟨-, hf⟩ := m_chkE hf
                obtain ⟨r29, h_r29, hf⟩ := m_calR hf (fun _ h => ro_X6_is h)
                dsimp only at hf
                have p_r29 := pc_X6_is h_r29
                dsimp only at p_r29
                obtain ⟨b29, q29⟩ := pc_X6_is h_r29 u hu15 (by rw [hu15.1]; omega)
                dsimp only at b29 q29
                have nR : ¬ RF2 L u w := by
                  rintro (x | x | x | x)
                  · omega
                  · omega
                  · omega
                  · have := q22.2 x; omega
                obtain ⟨-, hf⟩ := m_chkE hf
                rcases m_ifE hf with ⟨c8, hf⟩ | ⟨c8, hf⟩
                · skip
                  replace c8 := ti_eqP (a := r29) (b := (0 : Int32)) c8 rfl (show (0 : Int32).toInt = 0 from rfl)
                  obtain ⟨y1, y2⟩ := rt_158 H15 (by omega) hu15 hw15 (by omega) (by omega) cu cw hf
                  exact Or.inl ⟨(e + 1, L ++ [(u, w)], st), ⟨e, u, w, tk, nR, rfl, rfl, Or.inl ⟨fun x => by have := q29.2 x; omega, rfl⟩⟩, y1, y2⟩
                · skip
                  replace c8 := ti_eqN (a := r29) (b := (0 : Int32)) c8 rfl (show (0 : Int32).toInt = 0 from rfl)
                  obtain ⟨-, hf⟩ := m_chkE hf
                  replace hf := m_calY hf p115
                  obtain ⟨-, hf⟩ := m_chkE hf
                  replace hf := m_calY hf p315
                  obtain ⟨-, hf⟩ := m_chkE hf
                  replace hf := m_calY hf p015
                  obtain ⟨-, hf⟩ := m_chkE hf
                  replace hf := m_calY hf p715
                  obtain ⟨-, hf⟩ := m_chkE hf
                  obtain ⟨⟨r34, S34c⟩, h_r34, hf⟩ := m_calE hf
                  dsimp only at hf
                  have g34 := hs_fen H15 hu15 hw15 cw h_r34
                  dsimp only at g34
                  have hF : u = strL 0 := q29.1 (by omega)
                  obtain ⟨-, hf⟩ := m_chkE hf
                  rcases m_ifE hf with ⟨c9, hf⟩ | ⟨c9, hf⟩
                  · skip
                    replace c9 := ti_eqP (a := r34) (b := (0 : Int32)) c9 rfl (show (0 : Int32).toInt = 0 from rfl)
                    obtain ⟨-, hf⟩ := m_chkE hf
                    obtain ⟨⟨r35, S35c⟩, h_r35, hf⟩ := m_calE hf
                    dsimp only at hf
                    obtain ⟨x1, x2, x3⟩ : (∀ st', ¬ FENo (wA w) (w.length : Int) st') ∧ HSn S0 S34c g' ∧ LW S34c ch N (e + 1) := by
                      rcases g34 with ⟨x, -⟩ | ⟨-, x⟩
                      · omega
                      · exact x
                    obtain ⟨g1, g2, g3⟩ := hn_no x2 hg hX (by decide) (by omega) x3 h_r35
                    dsimp only at g1 g2 g3
                    obtain ⟨-, hf⟩ := m_chkE hf
                    obtain ⟨-, hf⟩ := m_chkE hf
                    cases hf
                    try dsimp only
                    refine Or.inr ⟨fun r hr => ?_, g1, g2, _, g3⟩
                    obtain ⟨e', u', w', a1, a2, a3, a4, a5⟩ := hr
                    obtain ⟨-, e2, e3⟩ := tpk_u tk a1
                    subst e2; subst e3
                    rcases a5 with ⟨a6, -⟩ | ⟨-, a6⟩
                    · exact a6 hF
                    · exact x1 _ a6
                  · skip
                    replace c9 := ti_eqN (a := r34) (b := (0 : Int32)) c9 rfl (show (0 : Int32).toInt = 0 from rfl)
                    obtain ⟨st', x1, x2, x3, x4⟩ : ∃ st', FENo (wA w) (w.length : Int) st' ∧ HSt S0 S34c g g' ch N (e + 1) st' L T ∧ RWL S34c 43 u ∧ RWL S34c 44 w := by
                      rcases g34 with ⟨-, x⟩ | ⟨x, -⟩
                      · exact x
                      · omega
                    obtain ⟨y1, y2⟩ := rt_158 x2 (by omega) x3 x4 (by omega) (by omega) cu cw hf
                    exact Or.inl ⟨(e + 1, L ++ [(u, w)], st'), ⟨e, u, w, tk, nR, rfl, rfl, Or.inr ⟨hF, x1⟩⟩, y1, y2⟩
              · skip
                replace c7 := ti_leN (a := r27) (b := (96 : Int32)) c7 rfl (show (96 : Int32).toInt = 96 from rfl)
                exact ref (Or.inr (Or.inr (Or.inl (by omega)))) hf
            · skip
              replace c6 := ti_eqN (a := r22) (b := (0 : Int32)) c6 rfl (show (0 : Int32).toInt = 0 from rfl)
              exact ref (Or.inr (Or.inr (Or.inr (q22.1 (by omega))))) hf
      · skip
        replace c3 := ti_eqN (a := r13) (b := (93 : Int32)) c3 rfl (show (93 : Int32).toInt = 93 from rfl)
        obtain ⟨-, hf⟩ := m_chkE hf
        obtain ⟨-, hf⟩ := m_chkE hf
        obtain ⟨⟨r36, S36c⟩, h_r36, hf⟩ := m_calE hf
        dsimp only at hf
        obtain ⟨g1, g2, g3⟩ := hn_no (toN _ _ _ _ G11).1 hg hX (by decide) (by omega) (toN _ _ _ _ G11).2 h_r36
        dsimp only at g1 g2 g3
        obtain ⟨-, hf⟩ := m_chkE hf
        obtain ⟨-, hf⟩ := m_chkE hf
        cases hf
        try dsimp only
        exact Or.inr ⟨noF e ⟨a, b, n1, n2, Or.inr ⟨ab, q, m1, Or.inr ⟨m4, Or.inr ⟨mt, e, d1, by omega, rfl⟩⟩⟩⟩, g1, g2, _, g3⟩
end RTC
section RHC
variable {S0 S S' : ZS} {g g' : Nat} {ch : Int → Int} {N p q : Int} {st st' : PO} {L L' : List (List Int × List Int)} {T : TRa} {o : Int32 × ZS}
theorem rh_8 : ∀ (n : Nat) (S : ZS) (x1 x2 : Int32) (k : Nat) (p : Int) (L : List (List Int × List Int)) (st : PO), HSt S0 S g g' ch N p st L T → x1.toInt = 1 → x2.toInt = (L.length : Int) → 9 ≤ k + L.length → d_X2_readHead_8 n 23 x1 x2 S = some o → (∃ r S1, hdP ch N k p L st = some r ∧ HSt S0 S1 g g' ch N r.1 r.2.2 r.2.1 T ∧ d_X2_readHead_50 23 1 S1 = some o) ∨ (hdP ch N k p L st = none ∧ o.1.toInt = 0 ∧ HSn S0 o.2 g') := by
  intro n
  induction n with
  | zero => intro S x1 x2 k p L st _ _ _ _ hf; cases hf
  | succ n ih =>
    intro S x1 x2 k p L st h h1 h2 hk hf
    have hf : d_X2_readHead_8s (d_X2_readHead_8 n) 23 x1 x2 S = some o := hf
    obtain ⟨c, ⟨hg, hX, hF0⟩, ⟨l, hpN, p3⟩, -, -, tg, -⟩ := id h
    obtain ⟨-, ⟨k23, p2, k2⟩, ⟨hc, hN, hn⟩, hcb, h4, hp⟩ := id l
    have l8 := tg.2.1
    have e1 : x1 = 1 := i32_of h1
    obtain ⟨k, rfl⟩ : ∃ j, k = j + 1 := ⟨k - 1, by omega⟩
    unfold d_X2_readHead_8s at hf
    rcases m_ifE hf with ⟨c1, hf⟩ | ⟨c1, hf⟩
    · skip
      replace c1 := ti_leP (a := (2000 : Int32)) (b := x2) c1 (show (2000 : Int32).toInt = 2000 from rfl) rfl
      omega
    · skip
      replace c1 := ti_leN (a := (2000 : Int32)) (b := x2) c1 (show (2000 : Int32).toInt = 2000 from rfl) rfl
      rcases m_ifE hf with ⟨c2, hf⟩ | ⟨c2, hf⟩
      · skip
        replace c2 := ti_eqP (a := x1) (b := (0 : Int32)) c2 rfl (show (0 : Int32).toInt = 0 from rfl)
        omega
      · skip
        replace c2 := ti_eqN (a := x1) (b := (0 : Int32)) c2 rfl (show (0 : Int32).toInt = 0 from rfl)
        obtain ⟨-, hf⟩ := m_chkE hf
        replace hf := m_calY hf p2
        obtain ⟨-, hf⟩ := m_chkE hf
        obtain ⟨-, hf⟩ := m_chkE hf
        obtain ⟨r2, h_r2, hf⟩ := m_calR hf (fun _ h => ro_X6_at h)
        dsimp only at hf
        have p_r2 := pc_X6_at h_r2
        dsimp only at p_r2
        rw [hc, h4] at p_r2
        obtain ⟨-, hf⟩ := m_chkE hf
        rcases m_ifE hf with ⟨c3, hf⟩ | ⟨c3, hf⟩
        · skip
          replace c3 := ti_eqP (a := r2) (b := (91 : Int32)) c3 rfl (show (91 : Int32).toInt = 91 from rfl)
          obtain ⟨-, hf⟩ := m_chkE hf
          obtain ⟨⟨r4, S5⟩, h_r4, hf⟩ := m_cal2E hf
          dsimp only at hf
          have g4 := p_readTagC h (by omega) h_r4
          obtain ⟨-, hf⟩ := m_chkE hf
          obtain ⟨⟨r8, S8c⟩, h_r8, hf⟩ := m_calE hf
          dsimp only at hf
          have g8 : ∀ q, LW S5 ch N q → BL ch q (blk ch q) ∧ LW S8c ch N (blk ch q) ∧ FR (fun a => a = 23) S5 S8c ∧ (blk ch q ≤ q ∨ blk ch q ≤ N) := fun q hq => lw_bl hq h_r8
          obtain ⟨-, hf⟩ := m_chkE hf
          obtain ⟨v9, e_v9, hf⟩ := m_bndE hf
          have t_v9 : v9.toInt = x2.toInt + 1 := ti_add e_v9 rfl (show (1 : Int32).toInt = 1 from rfl) (by omega) (by omega)
          rcases g4 with ⟨r, a1, a2, a3⟩ | ⟨a1, a2, a3, q, a4⟩
          · dsimp only at a2 a3
            obtain ⟨b1, b2, b3, b4⟩ := g8 _ a3.2.2.1.1
            have b5 := a3.2.2.1.2.1
            have H := hs_rd a3 b2 (by omega) b3 (fun a ha => by unfold WRd; omega)
            have hl : r.2.1.length = L.length + 1 := by
              obtain ⟨e, u, w, -, -, -, x, -⟩ := a1
              rw [x, List.length_append]; rfl
            rw [hd_y (by omega) a1]
            exact ih S8c r4 v9 k _ _ _ H a2 (by rw [hl]; omega) (by rw [hl]; omega) hf
          · dsimp only at a2 a3 a4
            obtain ⟨b1, b2, b3, b4⟩ := g8 _ a4
            have H := hn_rd a3 hg hX b2.1 b3 (fun a ha => by unfold WRd; omega)
            refine Or.inr ⟨hd_n (by omega) a1, ?_⟩
            cases n with
            | zero => cases hf
            | succ n =>
              have hf : d_X2_readHead_8s (d_X2_readHead_8 n) 23 r4 v9 S8c = some o := hf
              have r0 : r4 = 0 := i32_of a2
              rw [r0] at hf
              have fin : d_X2_readHead_50 23 0 S8c = some o → o.1.toInt = 0 ∧ HSn S0 o.2 g' := fun hf => by
                unfold d_X2_readHead_50 at hf
                rcases m_ifE hf with ⟨c9, hf⟩ | ⟨c9, hf⟩
                · unfold d_X2_readHead_73 d_X2_readHead_74 at hf
                  obtain ⟨-, hf⟩ := m_chkE hf
                  cases hf
                  exact ⟨rfl, H⟩
                · exact absurd rfl c9
              unfold d_X2_readHead_8s at hf
              rcases m_ifE hf with ⟨c9, hf⟩ | ⟨c9, hf⟩
              · exact fin hf
              · rcases m_ifE hf with ⟨c9, hf⟩ | ⟨c9, hf⟩
                · exact fin hf
                · exact absurd rfl c9
        · skip
          replace c3 := ti_eqN (a := r2) (b := (91 : Int32)) c3 rfl (show (91 : Int32).toInt = 91 from rfl)
          rw [e1] at hf
          exact Or.inl ⟨(p, L, st), S, hd_0 (by omega), h, hf⟩
end RHC
end
section
section RHE
variable {S0 S S1 S' : ZS} {g g' : Nat} {ch : Int → Int} {N p q : Int} {st st' : PO} {L L' : List (List Int × List Int)} {T T' : TRa} {o : Int32 × ZS}
theorem cs_hs (h : HSt S0 S g g' ch N p st L T) : CSt S S g g' ch N p st T := by
  obtain ⟨c, ⟨hg, hX, hF0⟩, ⟨l, hpN, p3⟩, ⟨tr, hw, h0⟩, ⟨bo, pg, nb⟩, tg, lb⟩ := h
  exact ⟨c, ⟨hg, c.2.2.1, fr_0⟩, l, hpN, p3, tr, ⟨hw, pg, nb, fun k k1 k2 => by omega⟩, rfl⟩
theorem kpc_e (hg : GG g g') (hX : FIX S0) (hF : FR (fun a => ¬ KPc S0 g' a) S0 S1) {a : Nat} (h : KPc S0 g' a) : KPc S1 g' a := by
  obtain ⟨b5, b6⟩ := kp_B hg hF hX
  unfold KPc at h ⊢
  rw [b5, b6]
  exact h
theorem hn_of (h : HSt S0 S1 g g' ch N p st L T) (hn : CSn S1 S g g') : HSn S0 S g' := by
  obtain ⟨c, ⟨hg, hX, hF0⟩, -⟩ := h
  exact ⟨hn.1, fr_t hF0 (fr_m hn.2.1 (fun a _ ha hk => ha (Or.inl (kpc_e hg hX hF0 hk))))⟩
/-- the game is read, but for its end -/
noncomputable def MSt (S0 S : ZS) (g g' : Nat) (ch : Int → Int) (N p : Int) (st : PO) (L : List (List Int × List Int)) (T : TRa) : Prop := CG S ∧ (GG g g' ∧ FIX S0 ∧ FR (fun a => ¬ KPc S0 g' a) S0 S) ∧ (LW S ch N p ∧ p ≤ N ∧ zP S 3 23 = some g) ∧ (TRc S g T ∧ WT T ∧ LTr st T) ∧ BO S (g + 1) st ∧ TGk S g L ∧ LBd L
theorem ms_of (h : HSt S0 S1 g g' ch N p st L T) (hc : CSt S1 S g g' ch N q st T') : MSt S0 S g g' ch N q st L T' := by
  have hn := hn_of h (cs_n hc)
  obtain ⟨c, ⟨hg, hX, hF0⟩, ⟨l, hpN, p3⟩, ⟨tr, hw, h0⟩, ⟨bo, pg, nb⟩, tg, lb⟩ := h
  obtain ⟨c2, ⟨-, -, hF2⟩, l2, hq, p32, tr2, wl, i5⟩ := hc
  exact ⟨c2, ⟨hg, hX, hn.2⟩, ⟨l2, hq, p32⟩, ⟨tr2, wl.1, wl.2⟩, bo_fr bo hF2 (fun n => n (Or.inr (Or.inl rfl))) (fun n => n (Or.inr (Or.inr (Or.inl rfl)))), tgk_fr c (gg_g hg) tg hF2 i5 (fun n => n (Or.inr (Or.inr (Or.inr (Or.inl rfl))))) (fun i t ht => ⟨fun n => n (Or.inr (Or.inr (Or.inr (Or.inr ⟨i, t, ht, Or.inr (Or.inl rfl)⟩)))), fun n => n (Or.inr (Or.inr (Or.inr (Or.inr ⟨i, t, ht, Or.inr (Or.inr rfl)⟩))))⟩), lb⟩
/-- the class's head of a game -/
theorem p_readHead (h : HSt S0 S g g' ch N p st [] T) (hf : d_X2_readHead 23 S = some o) : (∃ r e w S1, hdP ch N 9 (blk ch p) [] st = some r ∧ HSt S0 S1 g g' ch N r.1 r.2.2 r.2.1 T ∧ rmkP ch N 2001 (blk ch r.1) (tR T 0) = some (e, w) ∧ o.1.toInt = 1 ∧ CSt S1 o.2 g g' ch N e r.2.2 (rkT T 0 w) ∧ BO o.2 (g + 1) r.2.2) ∨ ((hdP ch N 9 (blk ch p) [] st = none ∨ ∃ r, hdP ch N 9 (blk ch p) [] st = some r ∧ rmkP ch N 2001 (blk ch r.1) (tR T 0) = none) ∧ o.1.toInt = 0 ∧ HSn S0 o.2 g') := by
  have hf : d_X2_readHead_0 23 S = some o := hf
  obtain ⟨c, ⟨hg, hX, hF0⟩, ⟨l, hpN, p3⟩, -⟩ := id h
  have hb : (g = 35 ∧ g' = 99) ∨ (g = 99 ∧ g' = 35) := hg
  unfold d_X2_readHead_0 at hf
  obtain ⟨-, hf⟩ := m_chkE hf
  obtain ⟨⟨r1, S2⟩, h_r1, hf⟩ := m_calE hf
  dsimp only at hf
  obtain ⟨-, hf⟩ := m_chkE hf
  obtain ⟨b1, b2, b3, b4⟩ := lw_bl l h_r1
  dsimp only at b2 b3
  have H := hs_rd h b2 (by omega) b3 (fun a ha => by unfold WRd; omega)
  rcases rh_8 mFuel S2 1 0 9 (blk ch p) [] st H rfl rfl (by decide) hf with ⟨r, S1, a1, a2, a3⟩ | ⟨a1, a2, a3⟩
  · obtain ⟨c1, -, ⟨l1, -, p31⟩, ⟨tr1, -, t0⟩, ⟨bo1, -⟩, -⟩ := id a2
    have hgr := gg_g hg
    unfold d_X2_readHead_50 at a3
    rcases m_ifE a3 with ⟨c9, hf⟩ | ⟨-, hf⟩
    · exact absurd c9 (by decide)
    · obtain ⟨-, hf⟩ := m_chkE hf
      replace hf := m_calY hf p31
      obtain ⟨-, hf⟩ := m_chkE hf
      obtain ⟨⟨r2, S3⟩, h_r2, hf⟩ := m_calE hf
      dsimp only at hf
      obtain ⟨e3, q2⟩ := p_at c1 hgr tr1 (by decide) (show (0 : Int32).toInt ≤ _ by rw [t0]; decide) h_r2
      obtain ⟨-, hf⟩ := m_chkE hf
      obtain ⟨-, hf⟩ := m_chkE hf
      rw [e3, q2] at hf
      obtain ⟨⟨r4, S5⟩, h_r4, hf⟩ := m_cal2E hf
      dsimp only at hf
      rcases cs_rk (cs_hs a2) (show (0 : Int32).toInt.toNat ≤ tn T from Nat.zero_le _) h_r4 with ⟨e, w, x1, x2, x3, x4⟩ | ⟨x1, x2, x3⟩
      · dsimp only at x2 x3 x4
        rcases m_ifE hf with ⟨c8, hf⟩ | ⟨-, hf⟩
        · rw [c8] at x2; exact absurd x2 (by decide)
        · unfold d_X2_readHead_74 at hf
          obtain ⟨-, hf⟩ := m_chkE hf
          cases hf
          have n0 := nk_ne c1 hgr 0 (a := g + 1) (by omega) (by omega) (by omega) (by omega)
          have n1 := nk_ne c1 hgr 0 (a := g + 2) (by omega) (by omega) (by omega) (by omega)
          refine Or.inl ⟨r, e, w, S1, a1, a2, x1, rfl, x3, bo_fr bo1 x4 ?_ ?_⟩
          · rintro (ee | ee)
            · omega
            · exact n0.2 ee.symm
          · rintro (ee | ee)
            · omega
            · exact n1.2 ee.symm
      · dsimp only at x2 x3
        rcases m_ifE hf with ⟨c8, hf⟩ | ⟨c8, hf⟩
        · unfold d_X2_readHead_73 d_X2_readHead_74 at hf
          obtain ⟨-, hf⟩ := m_chkE hf
          cases hf
          exact Or.inr ⟨Or.inr ⟨r, a1, x1⟩, rfl, hn_of a2 x3⟩
        · exact absurd (i32_of x2) c8
  · exact Or.inr ⟨Or.inl a1, a2, a3⟩
/-- the tag Result tells the same -/
noncomputable def AGr (L : List (List Int × List Int)) (r : Int) : Prop := ∀ i : Int, 0 ≤ i → i < (L.length : Int) → nmL L i = strL 10 → vlL L i = strL (rsS r)
theorem aw_2 {gm : Nat} {x1 : Int32} (hT : ZT S) (h : TGc S gm L) (lb : LBd L) : ∀ (n : Nat) (x2 : Int32), 0 ≤ x2.toInt → x2.toInt ≤ (L.length : Int) → (∀ i : Int, 0 ≤ i → i < x2.toInt → nmL L i = strL 10 → vlL L i = strL (rsS x1.toInt)) → d_X1_agreesWith_2 n gm x1 x2 S = some o → o.2 = S ∧ (o.1.toInt = 0 ∨ o.1.toInt = 1) ∧ (o.1.toInt = 1 ↔ AGr L x1.toInt) := by
  intro n
  induction n with
  | zero => intro x2 _ _ _ hf; cases hf
  | succ n ih =>
    intro x2 h0 h2 hs hf
    have hf : d_X1_agreesWith_2s (d_X1_agreesWith_2 n) gm x1 x2 S = some o := hf
    have l1 := h.1
    have h8 := h.2.1
    have go : ∀ hq : nmL L x2.toInt = strL 10 → vlL L x2.toInt = strL (rsS x1.toInt), x2.toInt < (L.length : Int) → d_X1_agreesWith_46 (d_X1_agreesWith_2 n) gm x1 x2 S = some o → o.2 = S ∧ (o.1.toInt = 0 ∨ o.1.toInt = 1) ∧ (o.1.toInt = 1 ↔ AGr L x1.toInt) := fun hq hlt hf => by
      unfold d_X1_agreesWith_46 at hf
      obtain ⟨v8, e8, hf⟩ := m_bndE hf
      have t8 : v8.toInt = x2.toInt + 1 := ti_add e8 rfl (show (1 : Int32).toInt = 1 from rfl) (by omega) (by omega)
      refine ih v8 (by omega) (by omega) (fun i i0 i1 => ?_) hf
      by_cases e : i = x2.toInt
      · rw [e]; exact hq
      · exact hs i i0 (by omega)
    unfold d_X1_agreesWith_2s at hf
    obtain ⟨-, hf⟩ := m_chkE hf
    rcases m_ifE hf with ⟨c1, hf⟩ | ⟨c1, hf⟩
    · replace c1 := ti_leP (a := zI S 5 gm) (b := x2) c1 rfl rfl
      obtain ⟨-, hf⟩ := m_chkE hf
      cases hf
      exact ⟨rfl, Or.inr rfl, fun _ i i0 i1 => hs i i0 (by omega), fun _ => rfl⟩
    · replace c1 := ti_leN (a := zI S 5 gm) (b := x2) c1 rfl rfl
      obtain ⟨-, hf⟩ := m_chkE hf
      obtain ⟨⟨r2, S3⟩, h_r2, hf⟩ := m_cal2E hf
      dsimp only at hf
      obtain ⟨e3, n1, v1, g1, g2, g3, g4⟩ := p_tagAt h ⟨h0, by omega⟩ h_r2
      rw [e3] at hf
      have lb2 := lb x2.toInt h0 (by omega)
      obtain ⟨-, hf⟩ := m_chkE hf
      replace hf := m_calY hf g1
      obtain ⟨-, hf⟩ := m_chkE hf
      obtain ⟨r7, h_r7, hf⟩ := m_calR hf (fun _ h => ro_X6_is h)
      dsimp only at hf
      obtain ⟨b7, q7⟩ := pc_X6_is h_r7 _ g3 (by rw [g3.1]; omega)
      dsimp only at b7 q7
      obtain ⟨-, hf⟩ := m_chkE hf
      rcases m_ifE hf with ⟨c2, hf⟩ | ⟨c2, hf⟩
      · replace c2 := ti_eqP (a := r7) (b := (0 : Int32)) c2 rfl (show (0 : Int32).toInt = 0 from rfl)
        exact go (fun e => by have := q7.2 e; omega) (by omega) hf
      · replace c2 := ti_eqN (a := r7) (b := (0 : Int32)) c2 rfl (show (0 : Int32).toInt = 0 from rfl)
        obtain ⟨-, hf⟩ := m_chkE hf
        obtain ⟨⟨r9, S10⟩, h_r9, hf⟩ := m_cal2E hf
        dsimp only at hf
        obtain ⟨e10, n2, v2, g5, g6, g7, g8⟩ := p_tagAt h ⟨h0, by omega⟩ h_r9
        rw [e10] at hf
        obtain ⟨-, hf⟩ := m_chkE hf
        replace hf := m_calY hf g6
        obtain ⟨⟨r14, S14⟩, h_r14, hf⟩ := m_calE hf
        dsimp only at hf
        obtain ⟨q14, e14⟩ := p_resultSign h_r14
        dsimp only at q14 e14
        rw [e14, q14] at hf
        obtain ⟨-, hf⟩ := m_chkE hf
        obtain ⟨-, hf⟩ := m_chkE hf
        obtain ⟨r15, h_r15, hf⟩ := m_calR hf (fun _ h => ro_X6_is h)
        dsimp only at hf
        obtain ⟨b15, q15⟩ := pc_X6_is h_r15 _ g8 (by rw [g8.1]; omega)
        dsimp only at b15 q15
        obtain ⟨-, hf⟩ := m_chkE hf
        rcases m_ifE hf with ⟨c3, hf⟩ | ⟨c3, hf⟩
        · replace c3 := ti_eqP (a := r15) (b := (0 : Int32)) c3 rfl (show (0 : Int32).toInt = 0 from rfl)
          obtain ⟨-, hf⟩ := m_chkE hf
          cases hf
          refine ⟨rfl, Or.inl rfl, fun e => absurd (show (0 : Int32).toInt = 1 from e) (by decide), fun hA => ?_⟩
          have := q15.2 (hA x2.toInt h0 (by omega) (q7.1 (by omega)))
          omega
        · replace c3 := ti_eqN (a := r15) (b := (0 : Int32)) c3 rfl (show (0 : Int32).toInt = 0 from rfl)
          exact go (fun _ => q15.1 (by omega)) (by omega) hf
theorem p_agrees {gm : Nat} {x1 : Int32} (hT : ZT S) (h : TGc S gm L) (lb : LBd L) (hf : d_X1_agreesWith gm x1 S = some o) : o.2 = S ∧ (o.1.toInt = 0 ∨ o.1.toInt = 1) ∧ (o.1.toInt = 1 ↔ AGr L x1.toInt) := aw_2 hT h lb mFuel 0 (by decide) (show (0 : Int) ≤ (L.length : Int) by omega) (fun i i0 i1 => by have z : (0 : Int32).toInt = 0 := rfl; omega) hf
end RHE
end
