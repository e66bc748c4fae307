/-- which references may change while a game is read -/
def vPk (k : Nat) : Bool := k == 6 || k == 5
/-- a cell stays as it was -/
def EQc (S S' : ZS) (a : Nat) : Prop := zK S' a = zK S a ∧ zN S' a = zN S a ∧ (∀ j, zI S' j a = zI S j a) ∧ (∀ j, zP S' j a = zP S j a) ∧ zB S' a = zB S a ∧ (zK S a ≠ 13 → zA S' a = zA S a) ∧ (zK S a = 6 → ∀ c, zP S 0 a = some c → zA S' c = zA S c)
/-- only cells with W change -/
def FR (W : Nat → Prop) (S S' : ZS) : Prop := ∀ a, zK S a < 18 → (zK S' a = zK S a ∧ zN S' a = zN S a ∧ (vPk (zK S a) = false → ∀ j, zP S' j a = zP S j a) ∧ (zK S a = 15 → zB S' a = zB S a)) ∧ (¬ W a → EQc S S' a)
section FRS
variable {S S1 S2 S' : ZS} {a b x : Nat} {W V : Nat → Prop}
theorem eqc_0 : EQc S S a := ⟨rfl, rfl, fun _ => rfl, fun _ => rfl, rfl, fun _ => rfl, fun _ _ _ => rfl⟩
theorem eqc_t (h : EQc S S1 a) (g : EQc S1 S2 a) : EQc S S2 a := by
  obtain ⟨h1, h2, h3, h4, h5, h6, h7⟩ := h
  obtain ⟨g1, g2, g3, g4, g5, g6, g7⟩ := g
  exact ⟨g1.trans h1, g2.trans h2, fun j => (g3 j).trans (h3 j), fun j => (g4 j).trans (h4 j), g5.trans h5, fun hk => (g6 (by rw [h1]; exact hk)).trans (h6 hk), fun hk c hc => (g7 (by rw [h1]; exact hk) c (by rw [h4]; exact hc)).trans (h7 hk c hc)⟩
theorem fr_0 : FR W S S := fun _ _ => ⟨⟨rfl, rfl, fun _ _ => rfl, fun _ => rfl⟩, fun _ => eqc_0⟩
theorem fr_t (h : FR W S S1) (g : FR W S1 S2) : FR W S S2 := fun a ha => by
  obtain ⟨⟨h1, h2, h3, h4⟩, h5⟩ := h a ha
  obtain ⟨⟨g1, g2, g3, g4⟩, g5⟩ := g a (by rw [h1]; exact ha)
  exact ⟨⟨g1.trans h1, g2.trans h2, fun hv j => (g3 (by rw [h1]; exact hv) j).trans (h3 hv j), fun hk => (g4 (by rw [h1]; exact hk)).trans (h4 hk)⟩, fun hw => eqc_t (h5 hw) (g5 hw)⟩
theorem fr_m (h : FR W S S') (hm : ∀ a, zK S a < 18 → W a → V a) : FR V S S' := fun a ha => ⟨(h a ha).1, fun hv => (h a ha).2 (fun hw => hv (hm a ha hw))⟩
theorem fr_k (h : FR W S S') (ha : zK S a < 18) : zK S' a = zK S a := (h a ha).1.1
theorem fr_e (h : FR W S S') (ha : zK S a < 18) (hw : ¬ W a) : EQc S S' a := (h a ha).2 hw
theorem fr_I {j : Nat} {v : Int32} (e : S' = zsI S j x v) : FR (fun a => a = x) S S' := by
  subst e
  exact fun a _ => ⟨⟨rfl, rfl, fun _ _ => rfl, fun _ => rfl⟩, fun hw => ⟨rfl, rfl, fun i => zI_b hw, fun _ => rfl, rfl, fun _ => rfl, fun _ _ _ => rfl⟩⟩
theorem fr_r (h : RWF S S' b) (hk : zK S b = 6) : FR (fun a => a = b) S S' := fun a ha => by
  obtain ⟨h1, h2, h3, h4, h5, h6, h7⟩ := h
  refine ⟨⟨(h1 a ha).1, (h1 a ha).2, fun hv j => ?_, fun _ => h6 a ha⟩, fun hw => ⟨(h1 a ha).1, (h1 a ha).2, fun j => (h2 a j ha hw).1, fun j => (h2 a j ha hw).2, h6 a ha, h5 a ha, fun hk c hc => h7 a c hk hw hc⟩⟩
  by_cases e : a = b
  · rw [e, hk] at hv; exact absurd hv (by decide)
  · exact (h2 a j ha e).2
theorem row_c {c : Nat} (hT : ZT S) (hk : zK S a = 6) (hc : zP S 0 a = some c) : c = 0 ∨ zK S c = 13 := by
  obtain ⟨b, h1, h2, -⟩ := hT.2.1 a hk
  rw [h1] at hc
  cases hc
  exact h2
theorem row_n {c : Nat} (hT : ZT S) (hk : zK S a = 6) (hc : zP S 0 a = some c) (hx : zK S x < 18) (h13 : zK S x ≠ 13) : c ≠ x := fun e => by
  rcases row_c hT hk hc with h | h
  · rw [← e, h] at hx
    have := hT.2.2.2.2.2.1
    omega
  · rw [e] at h; exact h13 h
theorem fr_A {i : Nat} {v : Int32} (hT : ZT S) (hk : zK S x = 14) (e : S' = zsA S x i v) : FR (fun a => a = x) S S' := by
  subst e
  have oth : ∀ c, c ≠ x → zA (zsA S x i v) c = zA S c := fun c hc => by show va_up (zA S) x _ c = _; exact va_up_ne _ _ hc
  exact fun a _ => ⟨⟨rfl, rfl, fun _ _ => rfl, fun _ => rfl⟩, fun hw => ⟨rfl, rfl, fun _ => rfl, fun _ => rfl, rfl, fun _ => oth a hw, fun h6 c hc => oth c (row_n hT h6 hc (by rw [hk]; decide) (by rw [hk]; decide))⟩⟩
theorem fr_x (h : SXf S S' x) : FR (fun a => a = x) S S' := fun a _ => ⟨⟨by rw [h.1], by rw [h.2.2.1], fun _ _ => by rw [h.2.1], fun _ => by rw [h.2.2.2.2.1]⟩, fun hw => ⟨by rw [h.1], by rw [h.2.2.1], fun j => h.2.2.2.2.2 j a hw, fun _ => by rw [h.2.1], by rw [h.2.2.2.2.1], fun _ => by rw [h.2.2.2.1], fun _ c _ => by rw [h.2.2.2.1]⟩⟩
theorem fr_b (hT : ZT S) (hk : zK S (b + 1) = 14) (h : SB S S' b) : FR (fun a => a = b ∨ a = b + 1) S S' := fun a _ => by
  obtain ⟨⟨-, -, e1, e2, e3⟩, h2, h3, h4, -⟩ := h
  refine ⟨⟨by rw [e1], by rw [e2], fun _ _ => by rw [h2], fun _ => by rw [e3]⟩, fun hw => ⟨by rw [e1], by rw [e2], fun j => h3 j a (fun e => hw (Or.inl e)), fun _ => by rw [h2], by rw [e3], fun _ => h4 a (fun e => hw (Or.inr e)), fun h6 c hc => h4 c (row_n hT h6 hc (by rw [hk]; decide) (by rw [hk]; decide))⟩⟩
theorem fr_mt {x0 rw tb ab fa : Nat} (h : MTF S S' x0 rw tb ab fa) (hk : zK S rw = 6) : FR (fun a => a = x0 ∨ a = rw ∨ a = tb ∨ a = ab ∨ a = tb + 1 ∨ a = ab + 1 ∨ a = fa) S S' := fun a ha => by
  obtain ⟨h1, h2, h3, h4, h5, h6⟩ := h
  refine ⟨⟨(h1 a ha).1, (h1 a ha).2, fun hv j => ?_, fun _ => h5 a ha⟩, fun hw => ⟨(h1 a ha).1, (h1 a ha).2, fun j => h2 a j ha (fun e => hw (Or.inl e)) (fun e => hw (Or.inr (Or.inl e))) (fun e => hw (Or.inr (Or.inr (Or.inl e)))) (fun e => hw (Or.inr (Or.inr (Or.inr (Or.inl e))))), fun j => h3 a j ha (Or.inl (fun e => hw (Or.inr (Or.inl e)))), h5 a ha, fun k13 => h4 a ha k13 (fun e => hw (Or.inr (Or.inr (Or.inr (Or.inr (Or.inl e)))))) (fun e => hw (Or.inr (Or.inr (Or.inr (Or.inr (Or.inr (Or.inl e))))))) (fun e => hw (Or.inr (Or.inr (Or.inr (Or.inr (Or.inr (Or.inr e))))))), fun k6 c hc => h6 a c k6 (fun e => hw (Or.inr (Or.inl e))) hc⟩⟩
  by_cases e : a = rw
  · rw [e, hk] at hv; exact absurd hv (by decide)
  · exact h3 a j ha (Or.inl e)
theorem fr_g {x0 nr vr : Nat} (h : GRF S S' x0 nr vr) (kn : zK S nr = 6) (kv : zK S vr = 6) : FR (fun a => a = x0 ∨ a = nr ∨ a = vr) S S' := fun a ha => by
  obtain ⟨h1, h2, h3, h4, h5, h6⟩ := h
  refine ⟨⟨(h1 a ha).1, (h1 a ha).2, fun hv j => ?_, fun _ => h5 a ha⟩, fun hw => ⟨(h1 a ha).1, (h1 a ha).2, fun j => h2 a j ha (fun e => hw (Or.inr (Or.inl e))) (fun e => hw (Or.inr (Or.inr e))) (fun e => hw (Or.inl e.1)), fun j => h3 a j ha (fun e => hw (Or.inr (Or.inl e))) (fun e => hw (Or.inr (Or.inr e))), h5 a ha, fun k13 => h4 a ha k13, fun k6 c hc => h6 a c k6 (fun e => hw (Or.inr (Or.inl e))) (fun e => hw (Or.inr (Or.inr e))) hc⟩⟩
  by_cases e : a = nr
  · rw [e, kn] at hv; exact absurd hv (by decide)
  · by_cases e2 : a = vr
    · rw [e2, kv] at hv; exact absurd hv (by decide)
    · exact h3 a j ha e e2
theorem fr_pf {x0 bb : Nat} (hT : ZT S) (hk : zK S (bb + 1) = 14) (h : PFr S S' x0 bb) : FR (fun a => a = x0 ∨ a = bb ∨ a = bb + 1) S S' := fun a _ => by
  obtain ⟨⟨-, -, e1, e2, e3⟩, h2, h3, h4, -⟩ := h
  exact ⟨⟨by rw [e1], by rw [e2], fun _ _ => by rw [h2], fun _ => by rw [e3]⟩, fun hw => ⟨by rw [e1], by rw [e2], fun j => h3 j a (fun e => hw (Or.inl e)) (fun e => hw (Or.inr (Or.inl e))), fun _ => by rw [h2], by rw [e3], fun _ => h4 a (fun e => hw (Or.inr (Or.inr e))), fun h6 c hc => h4 c (row_n hT h6 hc (by rw [hk]; decide) (by rw [hk]; decide))⟩⟩
theorem fr_P {j : Nat} {v : Option Nat} (hk : vPk (zK S x) = true) (e : S' = zsP S j x v) : FR (fun a => a = x) S S' := by
  subst e
  have oth : ∀ a i, a ≠ x → zP (zsP S j x v) i a = zP S i a := fun a i hc => by
    show va_up (zP S) j (va_up (zP S j) x v) i a = _
    by_cases e : i = j
    · rw [e, va_up_self, va_up_ne _ _ hc]
    · rw [va_up_ne _ _ e]
  exact fun a _ => ⟨⟨rfl, rfl, fun hv i => oth a i (fun e => by rw [e, hk] at hv; cases hv), fun _ => rfl⟩, fun hw => ⟨rfl, rfl, fun _ => rfl, fun i => oth a i hw, rfl, fun _ => rfl, fun _ _ _ => rfl⟩⟩
theorem eqc_rw (h : EQc S S' a) (hk : zK S a = 6) : rwC S' a = rwC S a := by
  obtain ⟨-, -, h3, h4, -, -, h7⟩ := h
  funext i
  unfold rwC
  rw [h3, h4]
  cases he : zP S 0 a with
  | none => rfl
  | some c =>
    have e := h7 hk c he
    simp only [e]
theorem eqc_rl {w : List Int} (h : EQc S S' a) (hk : zK S a = 6) (hl : RWL S a w) : RWL S' a w := ⟨by rw [h.2.2.1]; exact hl.1, fun i => by rw [eqc_rw h hk]; exact hl.2 i⟩
theorem eqc_mB (h : EQc S S' b) (h1 : EQc S S' (b + 1)) (hp : zP S 0 b = some (b + 1)) (hk : zK S (b + 1) = 14) : mCb S' b = mCb S b := mB_e (h.2.2.2.1 0) (fun c hc => by
  rw [hp] at hc
  cases hc
  exact h1.2.2.2.2.2.1 (by rw [hk]; decide))
end FRS
/-- blanks skipped -/
noncomputable def blk (ch : Int → Int) (p : Int) : Int := @dite _ (∃ b, BL ch p b) (Classical.propDecidable _) (fun h => Classical.choose h) (fun _ => p)
theorem blk_e {ch : Int → Int} {p b : Int} (h : BL ch p b) : blk ch p = b := by
  have h2 : ∃ b, BL ch p b := ⟨b, h⟩
  unfold blk
  rw [dif_pos h2]
  exact bl_u (Classical.choose_spec h2) h
/-- the reader at its text: the row 2 -/
def LW (S : ZS) (ch : Int → Int) (N p : Int) : Prop := ZT S ∧ (zK S 23 = 2 ∧ zP S 2 23 = some 2 ∧ zK S 2 = 6) ∧ (rwC S 2 = ch ∧ (zI S 1 2).toInt = N ∧ (0 ≤ N ∧ N ≤ 2000)) ∧ (∀ i, 0 ≤ ch i ∧ ch i ≤ 127) ∧ (zI S 4 23).toInt = p ∧ 0 ≤ p ∧ p ≤ 90000
section LWS
variable {S S1 S2 S' : ZS} {ch : Int → Int} {N p q : Int} {o : Int32 × ZS} {W : Nat → Prop} {x1 : Int32}
theorem lw_fr (h : LW S ch N p) (hT : ZT S') (hF : FR W S S') (h2 : ¬ W 2) (h4 : (zI S' 4 23).toInt = q) (hq : 0 ≤ q ∧ q ≤ 90000) : LW S' ch N q := by
  obtain ⟨-, ⟨k23, p2, k2⟩, ⟨hc, hN, hn⟩, hcb, -⟩ := h
  have e2 := fr_e hF (by rw [k2]; decide) h2
  have e23 := (hF 23 (by rw [k23]; decide)).1
  exact ⟨hT, ⟨e23.1.trans k23, (e23.2.2.1 (by rw [k23]; decide) 2).trans p2, e2.1.trans k2⟩, ⟨by rw [eqc_rw e2 k2]; exact hc, by rw [e2.2.2.1]; exact hN, hn⟩, hcb, h4, hq⟩
theorem lw_at {v : Int32} (h : LW S ch N p) (e : S' = zsI S 4 23 v) (hv : v.toInt = q) (hq : 0 ≤ q ∧ q ≤ 90000) : LW S' ch N q :=
  lw_fr h (e.symm ▸ zt_I h.1 h.2.1.1 (by decide) (show (0 : Int) ≤ v.toInt ∧ v.toInt ≤ (90100 : Int) by omega)) (fr_I e) (by decide) (by rw [e, zI_self]; exact hv) hq
theorem lw_fl {v : Int32} (h : LW S ch N p) (e : S' = zsI S 5 23 v) : LW S' ch N p :=
  lw_fr h (e.symm ▸ zt_W h.1 h.2.1.1 (by decide) rfl) (fr_I e) (by decide) (by rw [e, zI_j (by decide)]; exact h.2.2.2.2.1) h.2.2.2.2.2
theorem lw_bl (h : LW S ch N p) (hf : f_X2_skipBlanks 23 S = some o) : BL ch p (blk ch p) ∧ LW o.2 ch N (blk ch p) ∧ FR (fun a => a = 23) S o.2 ∧ (blk ch p ≤ p ∨ blk ch p ≤ N) := by
  obtain ⟨hT, ⟨k23, p2, k2⟩, ⟨hc, hN, hn⟩, hcb, h4, hp⟩ := id h
  obtain ⟨v, g1, g2, g3⟩ := p_skipBlanks k23 k2 p2 hc (by omega) (by omega) hf
  rw [h4] at g1 g3
  rw [hN] at g3
  have e := blk_e g1
  have := g1.1
  rw [e]
  exact ⟨g1, lw_at h g2 rfl (by omega), fr_I g2, g3⟩
theorem lw_out (h : LW S ch N p) {i : Int} (hi : N ≤ i) : ch i = 0 := by
  obtain ⟨-, -, ⟨hc, hN, -⟩, -⟩ := h
  rw [← hc]; exact rw_out (by omega)
/-- a refusal -/
theorem lw_no {x2 : Int32} (h : LW S ch N p) (h1 : 0 ≤ x1.toInt ∧ x1.toInt ≤ 10) (h2 : 0 ≤ x2.toInt ∧ x2.toInt ≤ 100000) (hf : f_X2_refuse 23 x1 x2 S = some o) : o.1.toInt = 0 ∧ LW o.2 ch N p ∧ FR (fun a => a = 23) S o.2 := by
  obtain ⟨g1, v, -, g3⟩ := p_refuse h1 h2 hf
  exact ⟨g1, lw_fl h g3, fr_I g3⟩
end LWS
