theorem start_K {s : State} {args : Array Value} (hts : ∀ w ∈ lw_tbl, w.before args s = true) : ∃ D : va_G, ∀ (k : Nat) (q : vw_C), vwCl[k]? = some q → u_Kn s q.1 q.2.1 q.2.2 (D.1 k) (D.2 k) := by
  have h0 : ∀ k : Nat, ∃ x : ClassId × (Nat → Nat), ∀ q : vw_C, vwCl[k]? = some q → u_Kn s q.1 q.2.1 q.2.2 x.1 x.2 := by
    intro k
    cases hq : vwCl[k]? with
    | none => exact ⟨(0, fun _ => 0), fun q h => by cases h⟩
    | some q =>
      have hk : k < 13 := (List.getElem?_eq_some_iff.mp hq).1
      obtain ⟨cC, iS, hK⟩ := u_known (C := q.1) (T := q.2.1) (N := q.2.2) (n := q.2.2) hts (pz_w k q hq) (hts _ (pz_k ⟨k, hk⟩ q hq))
      exact ⟨(cC, iS), fun q' h => by cases h; exact hK⟩
  obtain ⟨f, hf⟩ := Classical.axiomOfChoice h0
  exact ⟨(fun k => (f k).1, fun k => (f k).2), fun k q hq => hf k q hq⟩
def yF (c13 c14 c15 c16 c17 n0 fr sz f0 f1 : Nat) (adK adV : Nat → Nat) : Nat → Nat := fun i =>
  if i = 13 then c13 else if i = 14 then c14 else if i = 15 then c15 else if i = 16 then c16 else if i = 17 then c17 else if i = 50 then n0 else if i = 51 then fr else if i = 52 then sz else if i = 60 then f0 else if i = 61 then f1 else if i < 200 then adK (i - 100) else adV (i - 200)
theorem yF_K {c13 c14 c15 c16 c17 n0 fr sz f0 f1 : Nat} {adK adV : Nat → Nat} {i : Nat} (hi : i < 100) : yF c13 c14 c15 c16 c17 n0 fr sz f0 f1 adK adV (100 + i) = adK i := by
  unfold yF
  rw [if_neg (by omega), if_neg (by omega), if_neg (by omega), if_neg (by omega), if_neg (by omega), if_neg (by omega), if_neg (by omega), if_neg (by omega), if_neg (by omega), if_neg (by omega), if_pos (by omega), Nat.add_sub_cancel_left]
theorem yF_V {c13 c14 c15 c16 c17 n0 fr sz f0 f1 : Nat} {adK adV : Nat → Nat} {i : Nat} : yF c13 c14 c15 c16 c17 n0 fr sz f0 f1 adK adV (200 + i) = adV i := by
  unfold yF
  rw [if_neg (by omega), if_neg (by omega), if_neg (by omega), if_neg (by omega), if_neg (by omega), if_neg (by omega), if_neg (by omega), if_neg (by omega), if_neg (by omega), if_neg (by omega), if_neg (by omega), Nat.add_sub_cancel_left]
theorem start_S {s : State} {args : Array Value} {A : Nat → Prop} (hgv : ∀ w ∈ flatC gvC, w.before args s = true) (hA : ∀ a : Nat, a < s.heap.size → ¬ A a) : ∃ adK adV : Nat → Nat, vk_S zSn zSl zSb adK adV A s s.heap ∧ ∀ i : Nat, i < zSn → (tmZ i).eval args s none [] s = some (.ref (adK i)) := by
  have h0 : ∀ i : Nat, ∃ q : Nat × Nat, i < zSn → (tmZ i).eval args s none [] s = some (.ref q.1) ∧ va_O "java/lang/String" q.1 A s s.heap ∧ va_OF "java/lang/String" "coder" "B" (.int 0) q.1 A s s.heap ∧ va_OF "java/lang/String" "value" "[B" (.ref q.2) q.1 A s s.heap ∧ va_T .byte q.2 (zSl.getD i 0) (fun j => .int ((zSb.getD i []).getD j 0)) A s s.heap := by
    intro i
    by_cases hi : i < zSn
    · obtain ⟨a, c, cA, kA, q1, q2, q3, q4, q5, q6, -⟩ := Cond.exactly_spec (args := args) (first := s) (o := none) (s := s) (idx := []) (t := tmZ i) (cls := "java/lang/String") (hgv _ (pz_1 i hi))
      obtain ⟨t, ht, hT⟩ := va_Tof (f := fun j => .int ((zSb.getD i []).getD j 0)) (A := A) (pz_l i hi) (hgv _ (pz_3 i hi)) (va_eqt (hgv _ (pz_4 i hi))) (fun j hj => va_eqt (hgv _ (pz_5 i hi j hj))) hA
      exact ⟨(a, t), fun _ => ⟨q1, ⟨cA, q3, q5, by rw [q6]; exact q2, hA a (Array.getElem?_eq_some_iff.mp q3).1⟩, vk_OFof q1 (va_eqt (hgv _ (pz_2 i hi))) hA, vk_OFof q1 ht hA, hT⟩⟩
    · exact ⟨(0, 0), fun h => absurd h hi⟩
  obtain ⟨ad, had⟩ := Classical.axiomOfChoice h0
  refine ⟨fun i => (ad i).1, fun i => (ad i).2, ⟨fun i hi => (had i hi).2, fun i j hi hj e => ?_⟩, fun i hi => (had i hi).1⟩
  obtain ⟨-, -, -, ⟨cf, k1, i1, f1, cell1, a1, a2, a3, a4, a5, -⟩, ⟨cl1, b1, b2, b3, b4, b5, b6, -⟩⟩ := had i hi
  obtain ⟨-, -, -, ⟨cf', k2, i2, f2, cell2, a1', a2', a3', a4', a5', -⟩, ⟨cl2, b1', b2', b3', b4', b5', b6', -⟩⟩ := had j hj
  have e0 : (ad i).1 = (ad j).1 := e
  rw [← e0] at a3'
  cases a1.symm.trans a1'
  cases a3.symm.trans a3'
  have e1 : Value.ref (ad i).2 = Value.ref (ad j).2 := Option.some.inj (a5.symm.trans a5')
  have e2 : (ad i).2 = (ad j).2 := by injection e1
  rw [← e2] at b1'
  cases b1.symm.trans b1'
  have e3 : Int32.ofNat (zSl.getD i 0) = Int32.ofNat (zSl.getD j 0) := b5.symm.trans b5'
  have e4 : zSl.getD i 0 = zSl.getD j 0 := by
    have h1 := congrArg Int32.toNatClampNeg e3
    have hh : ∀ n, n < zSn → (Int32.ofNat (zSl.getD n 0)).toNatClampNeg = zSl.getD n 0 := by decide +kernel
    rw [hh i hi, hh j hj] at h1
    exact h1
  refine pz_d i hi j hj e4 (fun k hk => ?_)
  have h1 := (b6 k hk).symm.trans (b6' k (by rw [← e4]; exact hk))
  have h2 : Value.int ((zSb.getD i []).getD k 0) = Value.int ((zSb.getD j []).getD k 0) := Option.some.inj h1
  injection h2
theorem start_arr {s : State} {args : Array Value} {ty : FieldType} (hty : ∀ C, ty ≠ .object C) (h : (Cond.arrayClass ty).before args s = true) : ∃ c : ClassId, ArrOfT s c ty ∧ va_RA s c ty := by
  obtain ⟨c, k, comp, h1, h2, h3⟩ := Cond.arrayClass_spec h
  refine ⟨c, fun n z => ⟨fun k h => (by cases h), k, h2, comp, h3⟩, ?_⟩
  cases ty with
  | object C => exact absurd rfl (hty C)
  | _ => exact h1
theorem start_ob {s : State} {args : Array Value} {C : String} (h : (Cond.arrayOver (.object C)).before args s = true) : ∃ c : ClassId, ArrOfT s c (.object C) ∧ va_RA s c (.object C) := by
  obtain ⟨comp, c, k, f1, f2, f3, f4, f5⟩ := Cond.arrayOver_spec h
  exact ⟨c, fun n z => ⟨fun k h => (by cases h), k, f3, comp, f4⟩, k, comp, f3, f4, f1, f5⟩
/-- the world around, at the law's start -/
theorem start_E {s : State} {args : Array Value} (hts : ∀ w ∈ lw_tbl, w.before args s = true) (hgv : ∀ w ∈ flatC gvC, w.before args s = true) : ∃ (D : va_G) (y : Nat → ClassId) (cJ : ClassId), zE y (fun q => s.heap.size ≤ q) s s.heap ∧ va_K D vwCl (zT y) s ∧ va_K D vwCl [(cJ, .long)] s ∧ y 50 ≤ y 52 ∧ s.heap.size = y 52 + 1 ∧ zX (fun q => s.heap.size ≤ q) s s.heap ∧ va_Nc (xN 3) (xN 1) s ∧ va_Nc (xN 4) (xN 1) s := by
  have hA : ∀ a : Nat, a < s.heap.size → ¬ (fun q => s.heap.size ≤ q) a := fun a h1 h2 => absurd h1 (Nat.not_lt.mpr h2)
  obtain ⟨D, hD⟩ := start_K hts
  obtain ⟨adK, adV, hS, hK⟩ := start_S (A := fun q => s.heap.size ≤ q) hgv hA
  obtain ⟨c13, k13⟩ := start_arr (ty := .char) (fun C h => by cases h) (hts _ pz_10.1)
  obtain ⟨c14, k14⟩ := start_arr (ty := .int) (fun C h => by cases h) (hts _ pz_10.2.1)
  obtain ⟨cJ, kJ⟩ := start_arr (ty := .long) (fun C h => by cases h) (hts _ pz_10.2.2)
  obtain ⟨c15, k15⟩ := start_ob (C := "MoveTexts$Board") (hts _ (pz_9 _ (by decide)))
  obtain ⟨c16, k16⟩ := start_ob (C := "MoveTexts$Node") (hts _ (pz_9 _ (by decide)))
  obtain ⟨c17, k17⟩ := start_ob (C := "MoveTexts$Tag") (hts _ (pz_9 _ (by decide)))
  obtain ⟨n0, hn0, hT0⟩ := va_Tof (tm := .static "MoveTexts$Row" "NO_CHARS" "[C") (ty := .char) (N := 0) (f := fun _ => .int 0) (A := fun q => s.heap.size ≤ q) (by decide) (hgv _ pz_12.2.1) (va_eqt (hgv _ pz_12.2.2)) (fun j hj => absurd hj (Nat.not_lt_zero _)) hA
  obtain ⟨fr, hfr, hTf⟩ := va_Tof (tm := .static "MoveTexts$Board" "FIRST_RANK" "[I") (ty := .int) (N := 8) (f := fun j => .int (zFR.getD j 0)) (A := fun q => s.heap.size ≤ q) (by decide) (hgv _ pz_13.2.1.1) (va_eqt (hgv _ pz_13.2.1.2)) (fun j hj => va_eqt (hgv _ (pz_13.2.2 j hj))) hA
  have hZ0 := va_Zof (A := fun q => s.heap.size ≤ q) (hts _ pz_12.1.1) (hts _ pz_12.1.2) hn0 hA
  have hZf := va_Zof (A := fun q => s.heap.size ≤ q) (hts _ pz_13.1.1) (hts _ pz_13.1.2) hfr hA
  have hZc := va_Zof (A := fun q => s.heap.size ≤ q) (hts _ pz_14.1.1) (hts _ pz_14.1.2) (va_eqi (hgv _ pz_14.2)) hA
  have hZs := va_Zqof (A := fun q => s.heap.size ≤ q) (hts _ pz_15.1.1) (hts _ pz_15.1.2) (hgv _ pz_15.2) hA
  have hn : n0 < s.heap.size := by
    obtain ⟨cell, h1, -⟩ := hT0
    exact (Array.getElem?_eq_some_iff.mp h1).1
  obtain ⟨f0, f1, hfo⟩ : ∃ f0 f1 : Nat, va_Z "jdk/internal/util/Preconditions" "SIOOBE_FORMATTER" "Ljava/util/function/BiFunction;" (va_rf (if f0 = 0 then none else some f1)) (fun q => s.heap.size ≤ q) s s.heap := by
    rcases hZs with h | ⟨t, h⟩
    · exact ⟨0, 0, h⟩
    · exact ⟨1, t, h⟩
  refine ⟨D, yF c13 c14 c15 c16 c17 n0 fr (s.heap.size - 1) f0 f1 adK adV, cJ, ⟨fun t ht => va_Nw.of rfl (hts _ (pz_8 t ht)), ?_, fun t ht => ?_, hZc, hZ0, hZf, hTf, hfo, fun C hC => va_AO.of (hts _ (pz_9 C hC)), hT0⟩, ⟨hD, fun k q hk => ?_⟩, ⟨hD, fun k q hk => ?_⟩, ?_, ?_, ⟨⟨fun E hE => va_Nw.of rfl (hts _ (pz_11 E hE)), fun E hE => va_Nw.of rfl (hts _ (pz_18 E hE))⟩, vx_Zqof (hts _ pz_16.1.1) (hts _ pz_16.1.2.1) (hgv _ pz_16.2.1) hA, vx_Zqof (hts _ pz_16.1.2.2) (hts _ pz_16.1.2.1) (hgv _ pz_16.2.2) hA⟩, va_Nc.of (hgv _ pz_17.1), va_Nc.of (hgv _ pz_17.2)⟩
  · refine ⟨fun i hi => ?_, fun i j hi hj e => ?_⟩
    · have hi9 : i < 100 := Nat.lt_trans hi (by decide)
      dsimp only
      rw [yF_K hi9, yF_V]
      exact hS.1 i hi
    · have e9 : yF c13 c14 c15 c16 c17 n0 fr (s.heap.size - 1) f0 f1 adK adV (100 + i) = yF c13 c14 c15 c16 c17 n0 fr (s.heap.size - 1) f0 f1 adK adV (100 + j) := e
      rw [yF_K (Nat.lt_trans hi (by decide)), yF_K (Nat.lt_trans hj (by decide))] at e9
      exact hS.2 i j hi hj e9
  · have h1 := pz_61 t ht
    rw [yF_K (Nat.lt_trans h1 (by decide))]
    refine vk_R.of (hts _ (pz_7 t ht)) ?_
    rcases pz_6 t ht with h2 | h2
    · rw [← h2]; exact hK _ h1
    · exact va_eqR (hgv _ h2) (hK _ h1)
  · match k, hk with
    | 0, hk => cases hk; exact k13
    | 1, hk => cases hk; exact k14
    | 2, hk => cases hk; exact k15
    | 3, hk => cases hk; exact k16
    | 4, hk => cases hk; exact k17
  · match k, hk with
    | 0, hk => cases hk; exact kJ
  · show n0 ≤ s.heap.size - 1
    omega
  · show s.heap.size = s.heap.size - 1 + 1
    omega
