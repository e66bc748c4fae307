section LGC
variable {m : Int → Int} {sd rt ps kw kb ko a t p : Int}
theorem m2_own (hP : POS m sd rt ps kw kb) (ha : 0 ≤ a ∧ a < 64) (ht : 0 ≤ t ∧ t < 64) (hr : rch m sd rt ps a t) (hp : PRo m a t p) : pv (m2B m ps a t) sd a p ≠ 0 ∧ pv (m2B m ps a t) sd a p / 8 = sd := by
  have hv := pv_v (p := p) hP ha ht hr
  obtain ⟨⟨n0, n1⟩, -, -⟩ := hr
  have hs := hP.1
  rw [hv]
  rcases hp with ⟨e, -⟩ | ⟨e1, e2, -, -⟩
  · rw [if_pos e]; exact ⟨n0, n1⟩
  · rw [if_neg (by omega)]
    omega
/-- whether a move is safe does not hang on what a pawn becomes -/
theorem saf_p (hP : POS m sd rt ps kw kb) (ha : 0 ≤ a ∧ a < 64) (ht : 0 ≤ t ∧ t < 64) (hr : rch m sd rt ps a t) (hp : PRo m a t p) : safC m sd ps ko a t p ↔ safC m sd ps ko a t 0 := by
  have hs := hP.1
  have hv := pv_v (p := p) hP ha ht hr
  have hv0 := pv_v (p := 0) hP ha ht hr
  rw [if_pos rfl] at hv0
  by_cases c : p = 0
  · rw [c]
  · have hp2 : 2 ≤ p ∧ p ≤ 5 ∧ m a % 8 = 1 := by
      rcases hp with ⟨e, -⟩ | ⟨e1, e2, e3, -⟩
      · exact absurd e c
      · exact ⟨e1, e2, e3⟩
    rw [if_neg c] at hv
    have ek : kgB m sd ps a t p sd ko = kgB m sd ps a t 0 sd ko := by
      unfold kgB
      rw [hv, hv0, if_neg (by omega), if_neg (by omega)]
    have n0 := hr.1
    have o1 : plB m sd ps a t p t ≠ 0 ∧ plB m sd ps a t p t / 8 ≠ 1 - sd := by
      have hat : t ≠ a := fun e => by rw [e] at hr; exact hr.2.1 hr.1
      rw [plB_at, if_neg hat, if_pos rfl, hv]
      omega
    have o2 : plB m sd ps a t 0 t ≠ 0 ∧ plB m sd ps a t 0 t / 8 ≠ 1 - sd := by
      have hat : t ≠ a := fun e => by rw [e] at hr; exact hr.2.1 hr.1
      rw [plB_at, if_neg hat, if_pos rfl, hv0]
      exact ⟨n0.1, by omega⟩
    have he : ∀ s, s ≠ t → plB m sd ps a t p s = plB m sd ps a t 0 s := fun s h => by
      rw [plB_at, plB_at]
      by_cases e : s = a
      · rw [if_pos e, if_pos e]
      · rw [if_neg e, if_neg e, if_neg h, if_neg h]
    unfold safC
    rw [ek]
    constructor
    · rintro ⟨g1, g2⟩
      exact ⟨g1, fun g => g2 (attd_own (fun s h => (he s h).symm) o2 o1 g)⟩
    · rintro ⟨g1, g2⟩
      exact ⟨g1, fun g => g2 (attd_own he o1 o2 g)⟩
/-- legal by the class is legal by the reference -/
theorem lr_lc {key : Nat} (hP : POS m sd rt ps kw kb) (hko : ko = if sd = 0 then kw else kb) (hk : key < 32768) : LR m sd rt ps ko key ↔ rch m sd rt ps ((key / 512 : Nat) : Int) ((key / 8 % 64 : Nat) : Int) ∧ safC m sd ps ko ((key / 512 : Nat) : Int) ((key / 8 % 64 : Nat) : Int) 0 ∧ PRo m ((key / 512 : Nat) : Int) ((key / 8 % 64 : Nat) : Int) ((key % 8 : Nat) : Int) := by
  have h := leg_eq (p := 0) (a := ((key / 512 : Nat) : Int)) (t := ((key / 8 % 64 : Nat) : Int)) hP (by omega) (by omega) (by decide)
  rw [← hko] at h
  unfold LR
  constructor
  · rintro ⟨g1, g2, g3⟩
    obtain ⟨q1, q2⟩ := h.1 ⟨g1, g2⟩
    exact ⟨q1, q2, g3⟩
  · rintro ⟨g1, g2, g3⟩
    obtain ⟨q1, q2⟩ := h.2 ⟨g1, g2⟩
    exact ⟨q1, q2, g3⟩
end LGC
/-- a board that rules look at, with their own board for trials -/
def BX (S : ZS) (x0 tb bb : Nat) (m : Int → Int) (sd rt ps kw kb : Int) : Prop := ZT S ∧ (zK S x0 = 7 ∧ zP S 0 x0 = some tb) ∧ (zK S tb = 0 ∧ zP S 0 tb = some (tb + 1)) ∧ (zK S bb = 0 ∧ zP S 0 bb = some (bb + 1)) ∧ bb ≠ tb ∧ BN S bb ∧ mCb S bb = m ∧ (zI S 3 bb).toInt = sd ∧ (zI S 4 bb).toInt = rt ∧ (zI S 5 bb).toInt = ps ∧ (zI S 1 bb).toInt = kw ∧ (zI S 2 bb).toInt = kb
section BXS
variable {S S' : ZS} {x0 tb bb : Nat} {m : Int → Int} {sd rt ps kw kb : Int}
theorem bx_sb (h : BX S x0 tb bb m sd rt ps kw kb) (hT : ZT S') (hs : SB S S' tb) : BX S' x0 tb bb m sd rt ps kw kb := by
  obtain ⟨-, ⟨a1, a2⟩, ⟨b1, b2⟩, ⟨c1, c2⟩, d, e, f, g1, g2, g3, g4, g5⟩ := h
  have K : zK S' = zK S := hs.1.2.2.1
  have Q : zP S' = zP S := hs.2.1
  have i : ∀ j, zI S' j bb = zI S j bb := fun j => hs.2.2.1 j bb d
  refine ⟨hT, ⟨by rw [K]; exact a1, by rw [Q]; exact a2⟩, ⟨by rw [K]; exact b1, by rw [Q]; exact b2⟩, ⟨by rw [K]; exact c1, by rw [Q]; exact c2⟩, d, ?_, (mB_o hs c2 d).trans f, by rw [i]; exact g1, by rw [i]; exact g2, by rw [i]; exact g3, by rw [i]; exact g4, by rw [i]; exact g5⟩
  unfold BN
  rw [i, i]
  exact e
theorem bx_safe {x y : Int32} (h : BX S x0 tb bb m sd rt ps kw kb) (hM : MBd m) (hx : 0 ≤ x.toInt ∧ x.toInt ≤ 24575) (hf : f_X7_isSafe x0 bb x S = some (y, S')) : BX S' x0 tb bb m sd rt ps kw kb ∧ SB S S' tb ∧ (y.toInt = 0 ∨ y.toInt = 1) ∧ (y.toInt = 1 ↔ safC m sd ps (if sd = 0 then kw else kb) (x.toInt % 64) (x.toInt / 64 % 64) (x.toInt / 4096)) := by
  obtain ⟨hT, ⟨a1, a2⟩, ⟨b1, b2⟩, ⟨c1, c2⟩, d, e, f, g1, g2, g3, g4, g5⟩ := id h
  have T' : ZT S' := (ok_of (t_f_X7_isSafe (SZ := S) hT (a7_0 S) a1 c1) hf).1
  obtain ⟨q1, q2, q3⟩ := p_isSafe hT a1 a2 b1 b2 c1 c2 e f hM g1 g3 (by rw [g4, g5]) hx hf
  exact ⟨bx_sb h T' q1, q1, q2, q3⟩
theorem bx_reach {x1 x2 y : Int32} (h : BX S x0 tb bb m sd rt ps kw kb) (hM : MBd m) (hr : 0 ≤ rt ∧ rt ≤ 15) (h1 : 0 ≤ x1.toInt ∧ x1.toInt ≤ 63) (h2 : 0 ≤ x2.toInt ∧ x2.toInt ≤ 63) (hf : f_X0_reaches bb x1 x2 S = some (y, S')) : S' = S ∧ (y.toInt = 0 ∨ y.toInt = 1) ∧ (y.toInt = 1 ↔ rch m sd rt ps x1.toInt x2.toInt) := by
  obtain ⟨hT, -, -, ⟨c1, -⟩, -, -, f, g1, g2, g3, -, -⟩ := h
  obtain ⟨s, b, q⟩ := ok_of (x_f_X0_reaches hT c1 h1 h2 (by rw [f]; exact hM) (by rw [g2]; exact hr)) hf
  dsimp only at s b q
  rw [f, g1, g2, g3] at q
  exact ⟨s, by omega, q⟩
theorem bx_another {x1 x2 y : Int32} (h : BX S x0 tb bb m sd rt ps kw kb) (hM : MBd m) (h1 : 0 ≤ x1.toInt ∧ x1.toInt ≤ 63) (hf : f_X0_becomesAnother bb x1 x2 S = some (y, S')) : S' = S ∧ (y.toInt = 0 ∨ y.toInt = 1) ∧ (y.toInt = 1 ↔ m x1.toInt % 8 = 1 ∧ (x2.toInt < 8 ∨ 56 ≤ x2.toInt)) := by
  obtain ⟨hT, -, -, ⟨c1, -⟩, -, -, f, -⟩ := h
  obtain ⟨s, b, q⟩ := ok_of (x_f_X0_becomesAnother hT c1 h1 (by rw [f]; exact hM)) hf
  dsimp only at s b q
  rw [f] at q
  exact ⟨s, by omega, q⟩
end BXS
