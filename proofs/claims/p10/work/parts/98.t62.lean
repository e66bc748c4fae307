section RSU
variable {m : Int → Int} {sd rt ps kw kb ko : Int} {ch : Int → Int} {a b v w : Int}
/-- the answer of signs is one -/
theorem rsr_u (h : RSr m sd rt ps kw kb ko ch a b v) (g : RSr m sd rt ps kw kb ko ch a b w) : v = w := by
  unfold RSr at h g
  rcases h with ⟨h1, h2⟩ | ⟨h1, h2⟩ <;> rcases g with ⟨g1, g2⟩ | ⟨g1, g2⟩
  · rcases h2 with ⟨h2, k1, a1, a2, a3, a4⟩ | ⟨h2, h3⟩ <;> rcases g2 with ⟨g2, k2, b1, b2, b3, b4⟩ | ⟨g2, g3⟩
    · have := cnt_1 h2 (n := k1) (k := k2) ⟨a2, a3⟩ ⟨b2, b3⟩ a1 b1
      rw [a4, b4, this]
    · exact absurd h2 g2
    · exact absurd g2 h2
    · rw [h3, g3]
  · omega
  · omega
  · rcases h2 with ⟨h2, h3⟩ | ⟨h2, h3⟩ <;> rcases g2 with ⟨g2, g3⟩ | ⟨g2, g3⟩
    · rw [h3, g3]
    · exact absurd h2 g2
    · exact absurd g2 h2
    · rw [h3, g3]
theorem rsr_e : ∃ v, RSr m sd rt ps kw kb ko ch a b v := by
  by_cases h0 : 0 < cnt (fun key => LR m sd rt ps ko key ∧ FRs m sd rt ps kw kb false ch a b (mvk key)) 32768
  · by_cases h1 : cnt (fun key => LR m sd rt ps ko key ∧ FRs m sd rt ps kw kb false ch a b (mvk key)) 32768 = 1
    · obtain ⟨key, k1, k2, -⟩ := cnt_sur (k := 0) h0
      exact ⟨mvk key, Or.inl ⟨h0, Or.inl ⟨h1, key, k1, k2.1, k2.2, rfl⟩⟩⟩
    · exact ⟨-1, Or.inl ⟨h0, Or.inr ⟨h1, rfl⟩⟩⟩
  · by_cases h1 : cnt (fun key => LR m sd rt ps ko key ∧ FRs m sd rt ps kw kb true ch a b (mvk key)) 32768 = 1
    · exact ⟨-2, Or.inr ⟨by omega, Or.inl ⟨h1, rfl⟩⟩⟩
    · exact ⟨-1, Or.inr ⟨by omega, Or.inr ⟨h1, rfl⟩⟩⟩
end RSU
/-- what signs tell in a position: a move, or less than 0 -/
noncomputable def sgV (P : PO) (ch : Int → Int) (a b : Int) : Int := Classical.choose (rsr_e (m := om P) (sd := osd P) (rt := ort P) (ps := ops P) (kw := okw P) (kb := okb P) (ko := oko P) (ch := ch) (a := a) (b := b))
theorem sgV_s {P : PO} {ch : Int → Int} {a b : Int} : RSr (om P) (osd P) (ort P) (ops P) (okw P) (okb P) (oko P) ch a b (sgV P ch a b) := Classical.choose_spec (rsr_e (m := om P) (sd := osd P) (rt := ort P) (ps := ops P) (kw := okw P) (kb := okb P) (ko := oko P) (ch := ch) (a := a) (b := b))
theorem sgV_r {P : PO} {ch : Int → Int} {a b v : Int} (h : RSr (om P) (osd P) (ort P) (ops P) (okw P) (okb P) (oko P) ch a b v) : v = sgV P ch a b := rsr_u h sgV_s
theorem sgV_c {P : PO} {ch : Int → Int} {a b v : Int} (hP : PGd P) (hz : ∀ i, a ≤ i → i < b → ch i ≠ 0) (h : RSc (om P) (osd P) (ort P) (ops P) (okw P) (okb P) (oko P) ((txF false ch a (b - a).toNat).take 8) ((txF true ch a (b - a).toNat).take 8) v) : v = sgV P ch a b ∧ (0 ≤ v → LGo P v) := rs_eq hP rfl hz h sgV_s
theorem sgV_l {P : PO} {ch : Int → Int} {a b : Int} (hP : PGd P) (h : 0 ≤ sgV P ch a b) : LGo P (sgV P ch a b) := by
  have g := sgV_s (P := P) (ch := ch) (a := a) (b := b)
  unfold RSr at g
  rcases g with ⟨-, ⟨-, key, k1, k2, k3, k4⟩ | ⟨-, g⟩⟩ | ⟨-, ⟨-, g⟩ | ⟨-, g⟩⟩
  · rw [k4]; exact (lg_key hP rfl k1 k2).1
  · omega
  · omega
  · omega
/-- a move at p (behind blanks), for the node la: where it ends, the tree then -/
noncomputable def mvP (ch : Int → Int) (N : Int) (st : PO) (T : TRa) (la : Nat) (p : Int) : Option (Int × TRa) := match nuP ch (onb (posT st T la)) p with
  | none => none
  | some q => if ¬ ((97 ≤ ch q ∧ ch q ≤ 122) ∨ (65 ≤ ch q ∧ ch q ≤ 90)) then none else if sgV (posT st T la) ch q (sgk ch q) < 0 then none else if chL (tM T) (sgV (posT st T la) ch q (sgk ch q)) (tL T la) ≠ -1 then none else if 300 ≤ tn T then none else match mkP ch (sgk ch q) with
    | none => none
    | some (e2, K) => match rmkP ch N 2001 (blk ch e2) [] with
      | none => none
      | some (e3, w) => some (e3, rkT (mkT (grT T la (sgV (posT st T la) ch q (sgk ch q))) (tn T + 1) K) (tn T + 1) w)
section MVE
variable {ch : Int → Int} {N p q : Int} {st : PO} {T : TRa} {la : Nat}
theorem mv_1 (h : nuP ch (onb (posT st T la)) p = none) : mvP ch N st T la p = none := by
  unfold mvP; rw [h]
theorem mv_2 (h : nuP ch (onb (posT st T la)) p = some q) (g : ¬ isL (ch q)) : mvP ch N st T la p = none := by
  unfold mvP; rw [h]; exact if_pos g
theorem mv_3 (h : nuP ch (onb (posT st T la)) p = some q) (h2 : sgV (posT st T la) ch q (sgk ch q) < 0) : mvP ch N st T la p = none := by
  unfold mvP; rw [h]
  show (if _ then none else (if _ then none else _)) = none
  split
  · rfl
  · rfl
theorem mv_4 (h : nuP ch (onb (posT st T la)) p = some q) (h2 : chL (tM T) (sgV (posT st T la) ch q (sgk ch q)) (tL T la) ≠ -1) : mvP ch N st T la p = none := by
  unfold mvP; rw [h]
  show (if _ then none else (if _ then none else (if _ then none else _))) = none
  split
  · rfl
  · split
    · rfl
    · rfl
theorem mv_5 (h : nuP ch (onb (posT st T la)) p = some q) (h2 : 300 ≤ tn T) : mvP ch N st T la p = none := by
  unfold mvP; rw [h]
  show (if _ then none else (if _ then none else (if _ then none else (if _ then none else _)))) = none
  split
  · rfl
  · split
    · rfl
    · split
      · rfl
      · rfl
theorem mv_6 (h : nuP ch (onb (posT st T la)) p = some q) (h1 : isL (ch q)) (h2 : ¬ sgV (posT st T la) ch q (sgk ch q) < 0) (h3 : chL (tM T) (sgV (posT st T la) ch q (sgk ch q)) (tL T la) = -1) (h4 : ¬ 300 ≤ tn T) : mvP ch N st T la p = match mkP ch (sgk ch q) with
    | none => none
    | some (e2, K) => match rmkP ch N 2001 (blk ch e2) [] with
      | none => none
      | some (e3, w) => some (e3, rkT (mkT (grT T la (sgV (posT st T la) ch q (sgk ch q))) (tn T + 1) K) (tn T + 1) w) := by
  unfold mvP
  rw [h]
  show (if _ then none else (if _ then none else (if _ then none else (if _ then none else _)))) = _
  rw [if_neg (fun g => g h1), if_neg h2, if_neg (fun g => g h3), if_neg h4]
end MVE
/-- all moves, lines within lines: the stack of open lines (root, last), the innermost first -/
noncomputable def mach (ch : Int → Int) (N : Int) (st : PO) : Nat → Int → List (Nat × Nat) → TRa → Option (Int × TRa)
  | 0, _, _, _ => none
  | _ + 1, _, [], _ => none
  | k + 1, p, (ro, la) :: rest, T => if rest = [] ∧ rsV ch (blk ch p) ≠ -1 then some (blk ch p, T) else if la ≠ ro ∧ ch (blk ch p) = 40 then (if 6 ≤ rest.length then none else mach ch N st k (blk ch p + 1) (((tP T la).toNat, (tP T la).toNat) :: (ro, la) :: rest) T) else if la ≠ ro ∧ rest ≠ [] ∧ ch (blk ch p) = 41 then (match rmkP ch N 2001 (blk ch (blk ch p + 1)) (tR T (rest.headD (0, 0)).2) with
    | none => none
    | some (e, w) => mach ch N st k e rest (rkT T (rest.headD (0, 0)).2 w)) else (match mvP ch N st T la (blk ch p) with
    | none => none
    | some (e, T') => mach ch N st k e ((ro, tn T + 1) :: rest) T')
section MCH
variable {ch : Int → Int} {N p : Int} {st : PO} {T : TRa} {ro la : Nat} {rest : List (Nat × Nat)} {k : Nat}
theorem mc_r (h1 : rest = []) (h2 : rsV ch (blk ch p) ≠ -1) : mach ch N st (k + 1) p ((ro, la) :: rest) T = some (blk ch p, T) := if_pos ⟨h1, h2⟩
theorem mc_o (h1 : ¬ (rest = [] ∧ rsV ch (blk ch p) ≠ -1)) (h2 : la ≠ ro ∧ ch (blk ch p) = 40) : mach ch N st (k + 1) p ((ro, la) :: rest) T = if 6 ≤ rest.length then none else mach ch N st k (blk ch p + 1) (((tP T la).toNat, (tP T la).toNat) :: (ro, la) :: rest) T := by
  show (if _ then _ else (if _ then _ else _)) = _
  rw [if_neg h1, if_pos h2]
theorem mc_c (h1 : ¬ (rest = [] ∧ rsV ch (blk ch p) ≠ -1)) (h3 : la ≠ ro ∧ rest ≠ [] ∧ ch (blk ch p) = 41) : mach ch N st (k + 1) p ((ro, la) :: rest) T = match rmkP ch N 2001 (blk ch (blk ch p + 1)) (tR T (rest.headD (0, 0)).2) with
    | none => none
    | some (e, w) => mach ch N st k e rest (rkT T (rest.headD (0, 0)).2 w) := by
  show (if _ then _ else (if _ then _ else (if _ then _ else _))) = _
  rw [if_neg h1, if_neg (fun e => by have := e.2; have := h3.2.2; omega), if_pos h3]
theorem mc_m (h1 : ¬ (rest = [] ∧ rsV ch (blk ch p) ≠ -1)) (h2 : ¬ (la ≠ ro ∧ ch (blk ch p) = 40)) (h3 : ¬ (la ≠ ro ∧ rest ≠ [] ∧ ch (blk ch p) = 41)) : mach ch N st (k + 1) p ((ro, la) :: rest) T = match mvP ch N st T la (blk ch p) with
    | none => none
    | some (e, T') => mach ch N st k e ((ro, tn T + 1) :: rest) T' := by
  show (if _ then _ else (if _ then _ else (if _ then _ else _))) = _
  rw [if_neg h1, if_neg h2, if_neg h3]
end MCH
