/-- only the row b changes -/
def RWF (S S' : ZS) (b : Nat) : Prop := (∀ a, zK S a < 18 → zK S' a = zK S a ∧ zN S' a = zN S a) ∧ (∀ a j, zK S a < 18 → a ≠ b → zI S' j a = zI S j a ∧ zP S' j a = zP S j a) ∧ (∀ j, j ≠ 1 → zI S' j b = zI S j b) ∧ (∀ j, j ≠ 0 → zP S' j b = zP S j b) ∧ (∀ a, zK S a < 18 → zK S a ≠ 13 → zA S' a = zA S a) ∧ (∀ a, zK S a < 18 → zB S' a = zB S a) ∧ (∀ a c, zK S a = 6 → a ≠ b → zP S 0 a = some c → zA S' c = zA S c)
section RWS
variable {S S1 S2 S' : ZS} {b : Nat} {w : List Int}
theorem rwf_0 : RWF S S b := ⟨fun _ _ => ⟨rfl, rfl⟩, fun _ _ _ _ => ⟨rfl, rfl⟩, fun _ _ => rfl, fun _ _ => rfl, fun _ _ _ => rfl, fun _ _ => rfl, fun _ _ _ _ _ => rfl⟩
theorem rwf_t (h : RWF S S1 b) (g : RWF S1 S2 b) : RWF S S2 b := by
  obtain ⟨h1, h2, h3, h4, h5, h6, h7⟩ := h
  obtain ⟨g1, g2, g3, g4, g5, g6, g7⟩ := g
  have k : ∀ a, zK S a < 18 → zK S1 a < 18 := fun a ha => by rw [(h1 a ha).1]; exact ha
  refine ⟨fun a ha => ⟨(g1 a (k a ha)).1.trans (h1 a ha).1, (g1 a (k a ha)).2.trans (h1 a ha).2⟩, fun a j ha hb => ⟨(g2 a j (k a ha) hb).1.trans (h2 a j ha hb).1, (g2 a j (k a ha) hb).2.trans (h2 a j ha hb).2⟩, fun j hj => (g3 j hj).trans (h3 j hj), fun j hj => (g4 j hj).trans (h4 j hj), fun a ha hn => (g5 a (k a ha) (by rw [(h1 a ha).1]; exact hn)).trans (h5 a ha hn), fun a ha => (g6 a (k a ha)).trans (h6 a ha), fun a c ha hb hc => ?_⟩
  have ha2 : zK S a < 18 := by rw [ha]; decide
  exact (g7 a c (by rw [(h1 a ha2).1]; exact ha) hb (by rw [(h2 a 0 ha2 hb).2]; exact hc)).trans (h7 a c ha hb hc)
/-- another row stays -/
theorem rwf_rw {a : Nat} (h : RWF S S' b) (ha : zK S a = 6) (hb : a ≠ b) : rwC S' a = rwC S a := by
  obtain ⟨h1, h2, h3, h4, h5, h6, h7⟩ := h
  have ha2 : zK S a < 18 := by rw [ha]; decide
  funext i
  unfold rwC
  rw [(h2 a 1 ha2 hb).1, (h2 a 0 ha2 hb).2]
  cases hc : zP S 0 a with
  | none => rfl
  | some c =>
    have e := h7 a c ha hb hc
    simp only [e]
theorem rwf_mB {a c : Nat} (h : RWF S S' b) (ha : zK S a = 0) (hk : zK S b = 6) (hc : zP S 0 a = some c) (hk2 : zK S c = 14) : mCb S' a = mCb S a := by
  obtain ⟨h1, h2, h3, h4, h5, h6, h7⟩ := h
  have ha2 : zK S a < 18 := by rw [ha]; decide
  have hb : a ≠ b := fun e => by rw [e, hk] at ha; exact absurd ha (by decide)
  exact mB_e (h2 a 0 ha2 hb).2 (fun d hd => by
    rw [hc] at hd
    cases hd
    exact h5 c (by rw [hk2]; decide) (by rw [hk2]; decide))
theorem wA_app {w : List Int} {c i : Int} : wA (w ++ [c]) i = if i = (w.length : Int) then c else wA w i := by
  by_cases e : i = (w.length : Int)
  · rw [if_pos e, e]
    unfold wA
    rw [if_pos (by omega), Int.toNat_natCast, List.getD_eq_getElem?_getD, List.getElem?_append_right (Nat.le_refl _), Nat.sub_self]
    rfl
  · rw [if_neg e]
    by_cases h0 : i < 0
    · rw [wA_out (Or.inl h0), wA_out (Or.inl h0)]
    · by_cases h1 : (w.length : Int) < i
      · rw [wA_out (w := w) (Or.inr (by omega)), wA_out (Or.inr (by rw [List.length_append]; show (((w.length + 1 : Nat)) : Int) ≤ i; omega))]
      · unfold wA
        rw [if_pos (by omega), if_pos (by omega), List.getD_eq_getElem?_getD, List.getD_eq_getElem?_getD, List.getElem?_append_left (by omega)]
theorem put_43 {x0 : Nat} {x1 y : Int32} (hk : zK S x0 = 6) (hw : RWL S x0 w) (hl : (w.length : Int) ≤ 100000) (h1 : 0 ≤ x1.toInt ∧ x1.toInt ≤ 65535) (hu : ∀ a c, zK S a = 6 → a ≠ x0 → zP S 0 a = some c → zP S 0 x0 ≠ some c ∨ 18 ≤ zK S c) (hf : d_X6_put_43 x0 x1 S = some (y, S')) : RWL S' x0 (w ++ [x1.toInt]) ∧ RWF S S' x0 := by
  obtain ⟨w1, w2⟩ := hw
  unfold d_X6_put_43 at hf
  obtain ⟨-, hf⟩ := m_chkE hf
  obtain ⟨c, hc, hf⟩ := m_calE hf
  obtain ⟨-, hf⟩ := m_chkE hf
  obtain ⟨kc, hf⟩ := m_chkE hf
  obtain ⟨ki, hf⟩ := m_chkE hf
  obtain ⟨S2, e2, hf⟩ := m_bndE hf
  obtain ⟨-, hf⟩ := m_chkE hf
  obtain ⟨v3, e3, hf⟩ := m_bndE hf
  obtain ⟨-, hf⟩ := m_chkE hf
  obtain ⟨S4, e4, hf⟩ := m_bndE hf
  have ef := Option.some.inj hf
  have eS : S' = S4 := (congrArg Prod.snd ef).symm
  have i2 : zI S2 = zI S := by rw [e2]; rfl
  have t3 : v3.toInt = (w.length : Int) + 1 := by
    have := ti_add (c := v3) (a := zI S2 1 x0) (b := 1) e3 rfl (show (1 : Int32).toInt = 1 from rfl) (by rw [i2, w1]; omega) (by rw [i2, w1]; omega)
    rw [this, i2, w1]
  have nr : vp_nar .char x1 = x1 := nar_c h1.1 h1.2
  rw [nr] at e2
  rw [eS]
  have a4 : zA S4 c = upd (zA S c) (zI S 1 x0).toNatClampNeg x1 := by rw [e4, e2]; exact va_up_self _ _ _
  have p4 : zP S4 = zP S := by rw [e4, e2]; rfl
  have l4 : zI S4 1 x0 = v3 := by rw [e4]; exact zI_self _ _ _ _
  have nn : (zI S 1 x0).toNatClampNeg = w.length := by
    show (zI S 1 x0).toInt.toNat = w.length
    rw [w1]
    exact Int.toNat_natCast _
  refine ⟨⟨?_, fun i => ?_⟩, ?_⟩
  · rw [l4, t3, List.length_append]
    show _ = (((w.length + 1 : Nat)) : Int)
    omega
  · rw [wA_app, ← w2 i]
    unfold rwC
    rw [l4, t3, p4, hc, w1]
    show (if 0 ≤ i ∧ i < (w.length : Int) + 1 then (zA S4 c i.toNat).toInt else 0) = if i = (w.length : Int) then x1.toInt else if 0 ≤ i ∧ i < (w.length : Int) then (zA S c i.toNat).toInt else 0
    rw [a4, nn]
    by_cases g : i = (w.length : Int)
    · rw [if_pos (by omega), if_pos g, g, Int.toNat_natCast, upd_self]
    · rw [if_neg g]
      by_cases g2 : 0 ≤ i ∧ i < (w.length : Int)
      · rw [if_pos (by omega), if_pos g2, upd_ne (by omega)]
      · rw [if_neg (by omega), if_neg g2]
  · refine ⟨fun a _ => ⟨by rw [e4, e2]; rfl, by rw [e4, e2]; rfl⟩, fun a j _ hb => ⟨by rw [e4, zI_b hb, i2], by rw [p4]⟩, fun j hj => by rw [e4, zI_j hj, i2], fun j _ => by rw [p4], fun a _ hn => ?_, fun a _ => by rw [e4, e2]; rfl, fun a d ha hb hd => ?_⟩
    · rw [e4, e2]
      exact va_up_ne _ _ (fun e => hn (by rw [e]; exact kc))
    · rw [e4, e2]
      refine va_up_ne _ _ (fun e => ?_)
      rcases hu a d ha hb hd with h | h
      · rw [e] at h; exact h hc
      · rw [e, kc] at h; exact absurd h (by decide)
theorem p_rput {x0 : Nat} {x1 y : Int32} (hT : ZT S) (hk : zK S x0 = 6) (hw : RWL S x0 w) (hl : (w.length : Int) ≤ 100000) (h1 : 0 ≤ x1.toInt ∧ x1.toInt ≤ 65535) (hf : d_X6_put x0 x1 S = some (y, S')) : RWL S' x0 (w ++ [x1.toInt]) ∧ RWF S S' x0 := by
  have hf : d_X6_put_0 x0 x1 S = some (y, S') := hf
  obtain ⟨-, hr, -, -, hF, h0, -, -, -, -, ht, hU⟩ := hT
  have hu : ∀ a c, zK S a = 6 → a ≠ x0 → zP S 0 a = some c → zP S 0 x0 ≠ some c ∨ 18 ≤ zK S c := fun a c ha hb hc => by
    by_cases e : zP S 0 x0 = some c
    · rcases hU a x0 c ha hk hc e with e0 | e0
      · right; rw [e0]; exact h0
      · exact absurd e0 hb
    · exact Or.inl e
  unfold d_X6_put_0 at hf
  obtain ⟨-, hf⟩ := m_chkE hf
  obtain ⟨-, hf⟩ := m_chkE hf
  obtain ⟨b1, hb1, hf⟩ := m_calE hf
  obtain ⟨-, hf⟩ := m_chkE hf
  obtain ⟨v2, e2, hf⟩ := m_bndE hf
  rcases m_ifE hf with ⟨-, hf⟩ | ⟨-, hf⟩
  · exact put_43 hk hw hl h1 hu hf
  · obtain ⟨-, hf⟩ := m_chkE hf
    obtain ⟨v3, -, hf⟩ := m_bndE hf
    obtain ⟨v4, -, hf⟩ := m_bndE hf
    obtain ⟨-, hf⟩ := m_chkE hf
    obtain ⟨q, eq, hf⟩ := m_bndE hf
    obtain ⟨S6, e6, hf⟩ := m_bndE hf
    obtain ⟨-, hf⟩ := m_chkE hf
    obtain ⟨b9, hb9, hf⟩ := m_calE hf
    obtain ⟨-, hf⟩ := m_chkE hf
    obtain ⟨-, hf⟩ := m_chkE hf
    obtain ⟨k9, hf⟩ := m_chkE hf
    obtain ⟨S10, e10, hf⟩ := m_bndE hf
    obtain ⟨-, hf⟩ := m_chkE hf
    obtain ⟨S11, e11, hf⟩ := m_bndE hf
    have kq : 18 ≤ zK S q := by rw [eq]; exact hF _ (Nat.le_refl _)
    have nq : ∀ a, zK S a < 18 → a ≠ q := fun a ha e => by rw [e] at ha; omega
    have q0 : q ≠ 0 := by rw [eq]; omega
    have nx : x0 ≠ q := nq x0 (by rw [hk]; decide)
    have K6 : zK S6 = va_up (zK S) q 13 := by rw [e6]; rfl
    have K11 : zK S11 = va_up (zK S) q 13 := by rw [e11, e10]; exact K6
    have I11 : zI S11 = zI S := by rw [e11, e10, e6]; rfl
    have N11 : zN S11 = va_up (zN S) q (v4).toNatClampNeg := by rw [e11, e10, e6]; rfl
    have B11 : zB S11 = va_up (zB S) q (fun _ => none) := by rw [e11, e10, e6]; rfl
    have P6 : zP S6 = zP S := by rw [e6]; rfl
    have P10 : zP S10 = zP S := by rw [e10]; exact P6
    have P11 : zP S11 = va_up (zP S) 0 (va_up (zP S 0) x0 (some q)) := by rw [e11, ← P10]; rfl
    have px : zP S11 0 x0 = some q := by rw [P11, va_up_self, va_up_self]
    have po : ∀ j a, (a ≠ x0 ∨ j ≠ 0) → zP S11 j a = zP S j a := fun j a h => by
      rw [P11]
      by_cases e : j = 0
      · subst e
        rw [va_up_self]
        exact va_up_ne _ _ (h.resolve_right (fun g => g rfl))
      · rw [va_up_ne _ _ e]
    have A6 : ∀ a, a ≠ q → zA S6 a = zA S a := fun a ha => by rw [e6]; exact va_up_ne _ _ ha
    have A11 : ∀ a, a ≠ q → zA S11 a = zA S a := fun a ha => by
      have : zA S11 a = zA S6 a := by rw [e11, e10]; exact va_up_ne _ _ ha
      rw [this, A6 a ha]
    have Aq : zA S11 q = (if b9 = 0 then zA S6 q else va_cpy (zA S6 b9) (zA S6 q) 0 0 ((zI S6 1 x0)).toNatClampNeg) := by rw [e11, e10]; exact va_up_self _ _ _
    have I6 : zI S6 = zI S := by rw [e6]; rfl
    rw [P6] at hb9
    have hw11 : RWL S11 x0 w := by
      obtain ⟨w1, w2⟩ := hw
      refine ⟨by rw [I11]; exact w1, fun i => ?_⟩
      rw [← w2 i]
      unfold rwC
      rw [I11, px, hb9]
      by_cases g : 0 ≤ i ∧ i < (zI S 1 x0).toInt
      · rw [if_pos g, if_pos g]
        show (zA S11 q i.toNat).toInt = (zA S b9 i.toNat).toInt
        rw [Aq]
        have n9 : b9 ≠ 0 := fun e => by
          rcases k9 with ⟨-, k9⟩ | ⟨-, k9, -⟩
          · rw [I6] at k9
            rw [k9] at g
            have z : (0 : Int32).toInt = 0 := rfl
            omega
          · exact k9 e
        have k13 : zK S b9 < 18 := by
          obtain ⟨b, hb, hb2, -⟩ := hr x0 hk
          rw [hb] at hb9
          cases hb9
          rw [hb2.resolve_left n9]; decide
        rw [if_neg n9, I6, A6 b9 (nq b9 k13)]
        unfold va_cpy
        have nn : (zI S 1 x0).toNatClampNeg = (zI S 1 x0).toInt.toNat := rfl
        rw [if_pos (by omega)]
        congr 2
        omega
      · rw [if_neg g, if_neg g]
    have hu11 : ∀ a c, zK S11 a = 6 → a ≠ x0 → zP S11 0 a = some c → zP S11 0 x0 ≠ some c ∨ 18 ≤ zK S11 c := fun a c ha hb hc => by
      left
      rw [px]
      intro e
      cases e
      rw [po 0 a (Or.inl hb)] at hc
      have ha2 : zK S a = 6 := by
        rw [K11] at ha
        by_cases e : a = q
        · rw [e, va_up_self] at ha; exact absurd ha (by decide)
        · rw [va_up_ne _ _ e] at ha; exact ha
      obtain ⟨b, hb2, hb3, -⟩ := hr a ha2
      rw [hb2] at hc
      cases hc
      rcases hb3 with h | h
      · exact q0 h
      · rw [h] at kq; exact absurd kq (by decide)
    obtain ⟨g1, g2⟩ := put_43 (S := S11) (by rw [K11, va_up_ne _ _ nx]; exact hk) hw11 hl h1 hu11 hf
    refine ⟨g1, rwf_t ?_ g2⟩
    refine ⟨fun a ha => ⟨by rw [K11, va_up_ne _ _ (nq a ha)], by rw [N11, va_up_ne _ _ (nq a ha)]⟩, fun a j _ hb => ⟨by rw [I11], po j a (Or.inl hb)⟩, fun j _ => by rw [I11], fun j hj => po j x0 (Or.inr hj), fun a ha _ => A11 a (nq a ha), fun a ha => by rw [B11, va_up_ne _ _ (nq a ha)], fun a c ha hb hc => A11 c (fun e => ?_)⟩
    obtain ⟨b, hb2, hb3, -⟩ := hr a ha
    rw [hb2] at hc
    cases hc
    rcases hb3 with h | h
    · exact q0 (e.symm.trans h)
    · rw [e] at h; rw [h] at kq; exact absurd kq (by decide)
theorem wA_take {w : List Int} {n : Nat} {i : Int} : wA (w.take n) i = if i < (n : Int) then wA w i else 0 := by
  by_cases h0 : 0 ≤ i
  · unfold wA
    rw [if_pos h0, if_pos h0, List.getD_eq_getElem?_getD, List.getD_eq_getElem?_getD]
    by_cases c : i < (n : Int)
    · rw [if_pos c, List.getElem?_take_of_lt (by omega)]
    · rw [if_neg c, List.getElem?_eq_none (by rw [List.length_take]; omega)]
      rfl
  · rw [wA_out (Or.inl (by omega)), wA_out (Or.inl (by omega))]
    split <;> rfl
/-- a row cut -/
theorem p_keep {x0 : Nat} {x1 y : Int32} (hw : RWL S x0 w) (h1 : 0 ≤ x1.toInt) (hf : f_X6_keep x0 x1 S = some (y, S')) : RWL S' x0 (w.take x1.toInt.toNat) ∧ RWF S S' x0 ∧ (S' = S ∨ S' = zsI S 1 x0 x1) := by
  have hf : f_X6_keep_0 x0 x1 S = some (y, S') := hf
  obtain ⟨w1, w2⟩ := hw
  unfold f_X6_keep_0 at hf
  rcases m_ifE hf with ⟨c, hf⟩ | ⟨c, hf⟩
  · have := ti_ltP (a := x1) (b := (0 : Int32)) c rfl rfl
    have z : (0 : Int32).toInt = 0 := rfl
    omega
  · obtain ⟨-, hf⟩ := m_chkE hf
    rcases m_ifE hf with ⟨d, hf⟩ | ⟨d, hf⟩
    · have d1 := ti_leP (a := zI S 1 x0) (b := x1) d rfl rfl
      unfold f_X6_keep_17 at hf
      cases hf
      have e : w.take x1.toInt.toNat = w := List.take_of_length_le (by omega)
      rw [e]
      exact ⟨⟨w1, w2⟩, rwf_0, Or.inl rfl⟩
    · have d1 := ti_leN (a := zI S 1 x0) (b := x1) d rfl rfl
      obtain ⟨-, hf⟩ := m_chkE hf
      obtain ⟨S1, e1, hf⟩ := m_bndE hf
      unfold f_X6_keep_17 at hf
      have eS : S' = S1 := (congrArg Prod.snd (Option.some.inj hf)).symm
      rw [eS]
      have l1 : zI S1 1 x0 = x1 := by rw [e1]; exact zI_self _ _ _ _
      refine ⟨⟨by rw [l1, List.length_take]; omega, fun i => ?_⟩, ⟨fun a _ => ⟨by rw [e1]; rfl, by rw [e1]; rfl⟩, fun a j _ hb => ⟨by rw [e1, zI_b hb], by rw [e1]; rfl⟩, fun j hj => by rw [e1, zI_j hj], fun j _ => by rw [e1]; rfl, fun a _ _ => by rw [e1]; rfl, fun a _ => by rw [e1]; rfl, fun a c _ _ _ => by rw [e1]; rfl⟩, Or.inr e1⟩
      have g : rwC S1 x0 i = if i < x1.toInt then rwC S x0 i else 0 := by
        unfold rwC
        rw [l1, show zP S1 = zP S by rw [e1]; rfl, show zA S1 = zA S by rw [e1]; rfl]
        by_cases c1 : 0 ≤ i ∧ i < x1.toInt
        · rw [if_pos c1, if_pos c1.2, if_pos (by omega)]
        · rw [if_neg c1]
          by_cases c2 : i < x1.toInt
          · rw [if_pos c2, if_neg (by omega)]
          · rw [if_neg c2]
      rw [g, wA_take, w2 i]
      have e2 : ((x1.toInt.toNat : Nat) : Int) = x1.toInt := by omega
      rw [e2]
end RWS
/-- the characters of a piece of text, with or without x, + and # -/
def txF (lo : Bool) (ch : Int → Int) (a : Int) : Nat → List Int
  | 0 => []
  | k + 1 => (if lo = true ∧ (ch a = 120 ∨ ch a = 43 ∨ ch a = 35) then [] else [ch a]) ++ txF lo ch (a + 1) k
theorem txF_y {lo : Bool} {ch : Int → Int} {a : Int} {k : Nat} (h : lo = true ∧ (ch a = 120 ∨ ch a = 43 ∨ ch a = 35)) : txF lo ch a (k + 1) = txF lo ch (a + 1) k := by
  show (if lo = true ∧ (ch a = 120 ∨ ch a = 43 ∨ ch a = 35) then [] else [ch a]) ++ txF lo ch (a + 1) k = _
  rw [if_pos h]
  rfl
theorem txF_n {lo : Bool} {ch : Int → Int} {a : Int} {k : Nat} (h : ¬ (lo = true ∧ (ch a = 120 ∨ ch a = 43 ∨ ch a = 35))) : txF lo ch a (k + 1) = ch a :: txF lo ch (a + 1) k := by
  show (if lo = true ∧ (ch a = 120 ∨ ch a = 43 ∨ ch a = 35) then [] else [ch a]) ++ txF lo ch (a + 1) k = _
  rw [if_neg h]
  rfl
section CPW
variable {x0 x1 rw : Nat} {x3 : Int32} {ch : Int → Int} {S0 : ZS} {o : Int32 × ZS}
/-- what the copying loops hold: the row rw of the reader x0 and the text x1 -/
def CPi (S0 S : ZS) (x0 x1 rw : Nat) (ch : Int → Int) (u : List Int) : Prop := ZT S ∧ RWF S0 S rw ∧ zK S x0 = 8 ∧ zP S 1 x0 = some rw ∧ zK S rw = 6 ∧ rc rw = 1 ∧ zK S x1 = 6 ∧ x1 ≠ rw ∧ rwC S x1 = ch ∧ RWL S rw u
theorem cpi_put {S S1 : ZS} {u : List Int} {c y : Int32} (h : CPi S0 S x0 x1 rw ch u) (hu : u.length ≤ 8) (hc : 0 ≤ c.toInt ∧ c.toInt ≤ 65535) (hf : d_X6_put rw c S = some (y, S1)) : CPi S0 S1 x0 x1 rw ch (u ++ [c.toInt]) := by
  obtain ⟨hT, hF, k0, hP, k6, hr, kt, hne, hch, hw⟩ := h
  have q2 : (zI S 1 rw).toInt < (rL rw : Int) := by
    have : rL rw = 2000 := by
      unfold rL
      rw [hr, if_neg (by decide), if_pos (Or.inl rfl)]
    rw [this, hw.1]
    omega
  have T1 : ZT S1 := (ok_of (t_d_X6_put (SZ := S) hT (rp_0 S) k6 hc q2 (by rw [hr]; decide)) hf).1
  obtain ⟨g1, g2⟩ := p_rput hT k6 hw (by omega) hc hf
  have k08 : zK S x0 < 18 := by rw [k0]; decide
  have nx : x0 ≠ rw := fun e => by rw [e, k6] at k0; exact absurd k0 (by decide)
  exact ⟨T1, rwf_t hF g2, by rw [(g2.1 x0 k08).1]; exact k0, by rw [(g2.2.1 x0 1 k08 nx).2]; exact hP, by rw [(g2.1 rw (by rw [k6]; decide)).1]; exact k6, hr, by rw [(g2.1 x1 (by rw [kt]; decide)).1]; exact kt, hne, by rw [rwf_rw g2 kt hne]; exact hch, g1⟩
theorem rw_chr {S : ZS} {a : Nat} (hT : ZT S) (hk : zK S a = 6) (i : Int) : 0 ≤ rwC S a i ∧ rwC S a i ≤ 65535 := by
  unfold rwC
  by_cases c : 0 ≤ i ∧ i < (zI S 1 a).toInt
  · rw [if_pos c]
    obtain ⟨b, hb, hb2, hl, hl2, -⟩ := hT.2.1 a hk
    rw [hb]
    rcases hb2 with e | e
    · exfalso
      rw [e] at hl2
      have : zcap S 0 = 0 := if_pos rfl
      rw [this] at hl2
      omega
    · exact hT.2.2.2.2.2.2.1 b e _
  · rw [if_neg c]
    omega
theorem cw_11 {G : ZS → List Int → Prop} (hx : 0 ≤ x3.toInt ∧ x3.toInt ≤ 100000) : ∀ (n : Nat) (x4 : Int32) (S : ZS) (u : List Int), CPi S0 S x0 x1 rw ch u → u.length ≤ 8 → (0 ≤ x4.toInt ∧ x4.toInt ≤ 100000) → (∀ S2, CPi S0 S2 x0 x1 rw ch ((u ++ txF false ch x4.toInt (x3.toInt - x4.toInt).toNat).take 8) → d_X8_copyWhole_48 x0 S2 = some o → G o.2 ((u ++ txF false ch x4.toInt (x3.toInt - x4.toInt).toNat).take 8)) → d_X8_copyWhole_11 n x0 x1 x3 x4 S = some o → G o.2 ((u ++ txF false ch x4.toInt (x3.toInt - x4.toInt).toNat).take 8) := by
  intro n
  induction n with
  | zero => intro x4 S u _ _ _ _ hf; cases hf
  | succ n ih =>
    intro x4 S u hC hu h4 H hf
    obtain ⟨hT, hF, k0, hP, k6, hr, kt, hne, hch, hw⟩ := id hC
    have hf : d_X8_copyWhole_11s (d_X8_copyWhole_11 n) x0 x1 x3 x4 S = some o := hf
    unfold d_X8_copyWhole_11s at hf
    rcases m_ifE hf with ⟨c1, hf⟩ | ⟨c1, hf⟩
    · skip
      replace c1 := ti_leP (a := x3) (b := x4) c1 rfl rfl
      have e : (x3.toInt - x4.toInt).toNat = 0 := by omega
      rw [e] at H ⊢
      have e2 : (u ++ txF false ch x4.toInt 0).take 8 = u := by
        show (u ++ []).take 8 = u
        rw [List.append_nil]
        exact List.take_of_length_le (by omega)
      rw [e2] at H ⊢
      exact H S hC hf
    · skip
      replace c1 := ti_leN (a := x3) (b := x4) c1 rfl rfl
      obtain ⟨-, hf⟩ := m_chkE hf
      replace hf := m_calY hf hP
      obtain ⟨-, hf⟩ := m_chkE hf
      obtain ⟨r2, h_r2, hf⟩ := m_calR hf (fun _ h => ro_X6_size h)
      dsimp only at hf
      have p_r2 := pc_X6_size h_r2
      dsimp only at p_r2
      have q2 : r2.toInt = (u.length : Int) := by rw [p_r2]; exact hw.1
      obtain ⟨-, hf⟩ := m_chkE hf
      rcases m_ifE hf with ⟨c2, hf⟩ | ⟨c2, hf⟩
      · skip
        replace c2 := ti_ltP (a := (7 : Int32)) (b := r2) c2 (show (7 : Int32).toInt = 7 from rfl) rfl
        have e2 : (u ++ txF false ch x4.toInt (x3.toInt - x4.toInt).toNat).take 8 = u := by
          rw [List.take_append_of_le_length (by omega)]
          exact List.take_of_length_le (by omega)
        rw [e2] at H ⊢
        exact H S hC hf
      · skip
        replace c2 := ti_ltN (a := (7 : Int32)) (b := r2) c2 (show (7 : Int32).toInt = 7 from rfl) rfl
        obtain ⟨-, hf⟩ := m_chkE hf
        replace hf := m_calY hf hP
        obtain ⟨-, hf⟩ := m_chkE hf
        obtain ⟨r4, h_r4, hf⟩ := m_calR hf (fun _ h => ro_X6_at h)
        dsimp only at hf
        have p_r4 := pc_X6_at h_r4
        dsimp only at p_r4
        have cb := rw_chr hT kt x4.toInt
        have q4 : r4.toInt = ch x4.toInt := by rw [p_r4, hch]
        obtain ⟨-, hf⟩ := m_chkE hf
        obtain ⟨-, hf⟩ := m_chkE hf
        obtain ⟨⟨r6, S7⟩, h_r6, hf⟩ := m_cal2E hf
        dsimp only at hf
        have C7 := cpi_put hC hu (by omega) h_r6
        rw [q4] at C7
        obtain ⟨v10, e_v10, hf⟩ := m_bndE hf
        have t_v10 : v10.toInt = x4.toInt + 1 := ti_add e_v10 rfl (show (1 : Int32).toInt = 1 from rfl) (by omega) (by omega)
        have e : (x3.toInt - x4.toInt).toNat = (x3.toInt - v10.toInt).toNat + 1 := by omega
        have e2 : u ++ txF false ch x4.toInt (x3.toInt - x4.toInt).toNat = (u ++ [ch x4.toInt]) ++ txF false ch v10.toInt (x3.toInt - v10.toInt).toNat := by
          rw [e, txF_n (fun h => absurd h.1 (by decide)), t_v10, List.append_assoc]
          rfl
        rw [e2] at H ⊢
        exact ih v10 S7 _ C7 (by rw [List.length_append]; show u.length + 1 ≤ 8; omega) (by omega) H hf
theorem cb_11 (hx : 0 ≤ x3.toInt ∧ x3.toInt ≤ 100000) : ∀ (n : Nat) (x4 : Int32) (S : ZS) (u : List Int), CPi S0 S x0 x1 rw ch u → u.length ≤ 8 → (0 ≤ x4.toInt ∧ x4.toInt ≤ 100000) → d_X8_copyBare_11 n x0 x1 x3 x4 S = some o → CPi S0 o.2 x0 x1 rw ch ((u ++ txF true ch x4.toInt (x3.toInt - x4.toInt).toNat).take 8) := by
  intro n
  induction n with
  | zero => intro x4 S u _ _ _ hf; cases hf
  | succ n ih =>
    intro x4 S u hC hu h4 hf
    obtain ⟨hT, hF, k0, hP, k6, hr, kt, hne, hch, hw⟩ := id hC
    have hf : d_X8_copyBare_11s (d_X8_copyBare_11 n) x0 x1 x3 x4 S = some o := hf
    have skp : (ch x4.toInt = 120 ∨ ch x4.toInt = 43 ∨ ch x4.toInt = 35) → x4.toInt < x3.toInt → d_X8_copyBare_67 (d_X8_copyBare_11 n) x0 x1 x3 x4 S = some o → CPi S0 o.2 x0 x1 rw ch ((u ++ txF true ch x4.toInt (x3.toInt - x4.toInt).toNat).take 8) := by
      intro hc hlt hf
      unfold d_X8_copyBare_67 at hf
      obtain ⟨v1, e_v1, hf⟩ := m_bndE hf
      have t_v1 : v1.toInt = x4.toInt + 1 := ti_add e_v1 rfl (show (1 : Int32).toInt = 1 from rfl) (by omega) (by omega)
      have e : (x3.toInt - x4.toInt).toNat = (x3.toInt - v1.toInt).toNat + 1 := by omega
      have g := ih v1 S u hC hu (by omega) hf
      rw [e, txF_y ⟨rfl, hc⟩, ← t_v1]
      exact g
    unfold d_X8_copyBare_11s at hf
    rcases m_ifE hf with ⟨c1, hf⟩ | ⟨c1, hf⟩
    · skip
      replace c1 := ti_leP (a := x3) (b := x4) c1 rfl rfl
      unfold d_X8_copyBare_73 at hf
      cases hf
      try dsimp only
      have e : (x3.toInt - x4.toInt).toNat = 0 := by omega
      rw [e]
      have e2 : (u ++ txF true ch x4.toInt 0).take 8 = u := by
        show (u ++ []).take 8 = u
        rw [List.append_nil]
        exact List.take_of_length_le (by omega)
      rw [e2]
      exact hC
    · skip
      replace c1 := ti_leN (a := x3) (b := x4) c1 rfl rfl
      obtain ⟨-, hf⟩ := m_chkE hf
      replace hf := m_calY hf hP
      obtain ⟨-, hf⟩ := m_chkE hf
      obtain ⟨r2, h_r2, hf⟩ := m_calR hf (fun _ h => ro_X6_size h)
      dsimp only at hf
      have p_r2 := pc_X6_size h_r2
      dsimp only at p_r2
      have q2 : r2.toInt = (u.length : Int) := by rw [p_r2]; exact hw.1
      obtain ⟨-, hf⟩ := m_chkE hf
      rcases m_ifE hf with ⟨c2, hf⟩ | ⟨c2, hf⟩
      · skip
        replace c2 := ti_ltP (a := (7 : Int32)) (b := r2) c2 (show (7 : Int32).toInt = 7 from rfl) rfl
        unfold d_X8_copyBare_73 at hf
        cases hf
        try dsimp only
        have e2 : (u ++ txF true ch x4.toInt (x3.toInt - x4.toInt).toNat).take 8 = u := by
          rw [List.take_append_of_le_length (by omega)]
          exact List.take_of_length_le (by omega)
        rw [e2]
        exact hC
      · skip
        replace c2 := ti_ltN (a := (7 : Int32)) (b := r2) c2 (show (7 : Int32).toInt = 7 from rfl) rfl
        obtain ⟨-, hf⟩ := m_chkE hf
        obtain ⟨r3, h_r3, hf⟩ := m_calR hf (fun _ h => ro_X6_at h)
        dsimp only at hf
        have p_r3 := pc_X6_at h_r3
        dsimp only at p_r3
        have cb := rw_chr hT kt x4.toInt
        have q4 : r3.toInt = ch x4.toInt := by rw [p_r3, hch]
        obtain ⟨-, hf⟩ := m_chkE hf
        rcases m_ifE hf with ⟨c3, hf⟩ | ⟨c3, hf⟩
        · skip
          replace c3 := ti_eqP (a := r3) (b := (120 : Int32)) c3 rfl (show (120 : Int32).toInt = 120 from rfl)
          exact skp (Or.inl (by omega)) (by omega) hf
        · skip
          replace c3 := ti_eqN (a := r3) (b := (120 : Int32)) c3 rfl (show (120 : Int32).toInt = 120 from rfl)
          rcases m_ifE hf with ⟨c4, hf⟩ | ⟨c4, hf⟩
          · skip
            replace c4 := ti_eqP (a := r3) (b := (43 : Int32)) c4 rfl (show (43 : Int32).toInt = 43 from rfl)
            exact skp (Or.inr (Or.inl (by omega))) (by omega) hf
          · skip
            replace c4 := ti_eqN (a := r3) (b := (43 : Int32)) c4 rfl (show (43 : Int32).toInt = 43 from rfl)
            rcases m_ifE hf with ⟨c5, hf⟩ | ⟨c5, hf⟩
            · skip
              replace c5 := ti_eqP (a := r3) (b := (35 : Int32)) c5 rfl (show (35 : Int32).toInt = 35 from rfl)
              exact skp (Or.inr (Or.inr (by omega))) (by omega) hf
            · skip
              replace c5 := ti_eqN (a := r3) (b := (35 : Int32)) c5 rfl (show (35 : Int32).toInt = 35 from rfl)
              obtain ⟨-, hf⟩ := m_chkE hf
              replace hf := m_calY hf hP
              obtain ⟨-, hf⟩ := m_chkE hf
              obtain ⟨⟨r6, S7⟩, h_r6, hf⟩ := m_cal2E hf
              dsimp only at hf
              have C7 := cpi_put hC hu (by omega) h_r6
              rw [q4] at C7
              unfold d_X8_copyBare_67 at hf
              obtain ⟨v1, e1, hf⟩ := m_bndE hf
              have t1 : v1.toInt = x4.toInt + 1 := ti_add e1 rfl (show (1 : Int32).toInt = 1 from rfl) (by omega) (by omega)
              have e : (x3.toInt - x4.toInt).toNat = (x3.toInt - v1.toInt).toNat + 1 := by omega
              have e2 : u ++ txF true ch x4.toInt (x3.toInt - x4.toInt).toNat = (u ++ [ch x4.toInt]) ++ txF true ch v1.toInt (x3.toInt - v1.toInt).toNat := by
                rw [e, txF_n (fun h => by omega), t1, List.append_assoc]
                rfl
              rw [e2]
              exact ih v1 S7 _ C7 (by rw [List.length_append]; show u.length + 1 ≤ 8; omega) (by omega) hf
end CPW
