/-- the digits of a number below 10000 -/
def d1W (v : Int) : List Int := [48 + v % 10]
def d2W (v : Int) : List Int := (48 + v / 10 % 10) :: d1W v
def d3W (v : Int) : List Int := (48 + v / 100 % 10) :: d2W v
def d4W (v : Int) : List Int := (48 + v / 1000 % 10) :: d3W v
def dgU (u v : Int) : List Int := if u = 1000 then d4W v else if u = 100 then d3W v else if u = 10 then d2W v else if u = 1 then d1W v else []
def nmW (v : Int) : List Int := if v < 10 then d1W v else if v < 100 then d2W v else if v < 1000 then d3W v else d4W v
def UNt (u : Int) : Prop := u = 0 ∨ u = 1 ∨ u = 10 ∨ u = 100 ∨ u = 1000
theorem dgu_s {u v : Int} (hu : UNt u) (h : 0 < u) : UNt (u / 10) ∧ dgU u v = [48 + v / u % 10] ++ dgU (u / 10) v := by
  rcases hu with e | e | e | e | e <;> subst e
  · exact absurd h (by decide)
  · refine ⟨Or.inl (by decide), ?_⟩
    show [48 + v % 10] = [48 + v / 1 % 10] ++ []
    rw [Int.ediv_one, List.append_nil]
  · exact ⟨Or.inr (Or.inl (by decide)), rfl⟩
  · exact ⟨Or.inr (Or.inr (Or.inl (by decide))), rfl⟩
  · exact ⟨Or.inr (Or.inr (Or.inr (Or.inl (by decide)))), rfl⟩
theorem nmu_u {u v : Int} (hu : u = 1 ∨ u = 10 ∨ u = 100 ∨ u = 1000) (h1 : u = 1 ∨ u ≤ v) (h2 : v < u * 10) : nmW v = dgU u v := by
  unfold nmW
  rcases hu with e | e | e | e <;> subst e
  · rw [if_pos (by omega)]; rfl
  · rw [if_neg (by omega), if_pos (by omega)]; rfl
  · rw [if_neg (by omega), if_neg (by omega), if_pos (by omega)]; rfl
  · rw [if_neg (by omega), if_neg (by omega), if_neg (by omega)]; rfl
/-- marks, remarks -/
def mkW (K : List Int) : List Int := K.flatMap (fun m => 32 :: 36 :: nmW m)
def rmW (r : List Int) : List Int := 123 :: (r ++ [125])
def rkW (r : List Int) : List Int := if r = [] then [] else 32 :: rmW r
/-- a move's signs, with the sign behind it -/
noncomputable def ckE (P : PO) (x : Int) : Int := @Classical.epsilon Int ⟨0⟩ (fun c => csF (om P) (osd P) (ort P) (ops P) (okw P) (okb P) x c)
noncomputable def sgP (P : PO) (x : Int) : List Int := sgW P x (ckE P x)
theorem sg_e {P : PO} {x c : Int} (h : csF (om P) (osd P) (ort P) (ops P) (okw P) (okb P) x c) : sgW P x c = sgP P x := by
  have e : c = ckE P x := csF_u h (Classical.epsilon_spec (p := fun c => csF (om P) (osd P) (ort P) (ops P) (okw P) (okb P) x c) ⟨c, h⟩)
  unfold sgP
  rw [← e]
/-- a move as it is written -/
noncomputable def mvX (P : PO) (x : Int) (K r : List Int) (fr : Bool) : List Int := (if osd P = 0 ∨ fr = true then nmW (onb P) ++ ((if osd P = 0 then [46] else [46, 46, 46]) ++ [32]) else []) ++ (sgP P x ++ (mkW K ++ rkW r))
noncomputable def mvT (st : PO) (T : TRa) (k : Nat) (fr : Bool) : List Int := mvX (posT st T (tP T k).toNat) (tM T k) (tK T k) (tR T k) fr
def tlW (T : TRa) (k : Nat) : List Int := if tL T k = [] then [] else [32]
def rkB (T : TRa) (k : Nat) : Bool := !(tR T k).isEmpty
/-- what follows behind a node -/
noncomputable def lnP (st : PO) (T : TRa) : Nat → Bool → Nat → List Int
  | 0, _, _ => []
  | m + 1, fr, p => match tL T p with
    | [] => []
    | F :: os => mvT st T F fr ++ (os.flatMap (fun o => 32 :: 40 :: ((mvT st T o true ++ (tlW T o ++ lnP st T m (rkB T o) o)) ++ [41])) ++ (tlW T F ++ lnP st T m (rkB T F || !os.isEmpty) F))
/-- a line within a line -/
noncomputable def vrT (st : PO) (T : TRa) (m o : Nat) : List Int := mvT st T o true ++ (tlW T o ++ lnP st T m (rkB T o) o)
noncomputable def vsT (st : PO) (T : TRa) (m : Nat) (os : List Nat) : List Int := os.flatMap (fun o => 32 :: 40 :: (vrT st T m o ++ [41]))
theorem ln_n {st : PO} {T : TRa} {m p : Nat} {fr : Bool} (h : tL T p = []) : lnP st T m fr p = [] := by
  cases m with
  | zero => rfl
  | succ m =>
    unfold lnP
    rw [h]
theorem ln_c {st : PO} {T : TRa} {m p F : Nat} {os : List Nat} {fr : Bool} (h : tL T p = F :: os) : lnP st T (m + 1) fr p = mvT st T F fr ++ (vsT st T m os ++ (tlW T F ++ lnP st T m (rkB T F || !os.isEmpty) F)) := by
  rw [lnP, h]
  rfl
theorem vs_c {st : PO} {T : TRa} {m o : Nat} {os : List Nat} : vsT st T m (o :: os) = [32] ++ ([40] ++ (vrT st T m o ++ ([41] ++ vsT st T m os))) := by
  unfold vsT
  rw [List.flatMap_cons]
  simp
/-- the tags -/
def qtW (v : List Int) : List Int := v.flatMap (fun c => if c = 34 ∨ c = 92 then [92, c] else [c])
def tgW (t : List Int × List Int) : List Int := 91 :: (t.1 ++ (32 :: 34 :: (qtW t.2 ++ [34, 93, 10])))
def hdW (L : List (List Int × List Int)) : List Int := L.flatMap tgW ++ (if L = [] then [] else [10])
def rsW (r : Int) : List Int := if r = 0 then [42] else if r = 1 then [49, 45, 48] else if r = 2 then [48, 45, 49] else [49, 47, 50, 45, 49, 47, 50]
/-- the whole game -/
noncomputable def wtW (L : List (List Int × List Int)) (st : PO) (T : TRa) (r : Int) : List Int := hdW L ++ ((if tR T 0 = [] then [] else rmW (tR T 0) ++ [32]) ++ ((if tL T 0 = [] then [] else lnP st T 301 true 0 ++ [32]) ++ rsW r))
