theorem gD_l {α : Type} {d : α} : ∀ (l m : List α) (n : Nat), n < l.length → (l ++ m).getD n d = l.getD n d
  | [], _, _, h => absurd h (Nat.not_lt_zero _)
  | _ :: _, _, 0, _ => rfl
  | _ :: l, m, n + 1, h => gD_l l m n (Nat.lt_of_succ_lt_succ h)
theorem gD_r {α : Type} {d : α} : ∀ (l : List α) (a : α), (l ++ [a]).getD l.length d = a
  | [], _ => rfl
  | _ :: l, a => gD_r l a
def VLr (A : Nat → Nat → Int32) (g k : Int) (w : List Int) : Prop := (A 21 (8 * g + k).toNat).toInt = (w.length : Int) ∧ w.length ≤ 96 ∧ ∀ i : Int, 0 ≤ i → i < (w.length : Int) → (A 22 (768 * g + 96 * k + i).toNat).toInt = wA w i
def nmL (L : List (List Int × List Int)) (i : Int) : List Int := (L.getD i.toNat ([], [])).1
def vlL (L : List (List Int × List Int)) (i : Int) : List Int := (L.getD i.toNat ([], [])).2
/-- the tags of the reference's game g -/
def TGr (A : Nat → Nat → Int32) (g : Int) (L : List (List Int × List Int)) : Prop := (A 18 g.toNat).toInt = (L.length : Int) ∧ L.length ≤ 8 ∧ ∀ i : Int, 0 ≤ i → i < (L.length : Int) → NMr A g i (nmL L i) ∧ VLr A g i (vlL L i)
/-- a tag is too much -/
def RF2 (L : List (List Int × List Int)) (u w : List Int) : Prop := (L.length : Int) = 8 ∨ 12 < (u.length : Int) ∨ 96 < (w.length : Int) ∨ ∃ i, 0 ≤ i ∧ i < (L.length : Int) ∧ nmL L i = u
/-- all but game g stays -/
def TFx (A A' : Nat → Nat → Int32) (g : Int) : Prop := (∀ i : Nat, (i : Int) ≠ g → A' 18 i = A 18 i) ∧ (∀ i : Nat, ((i : Int) < 8 * g ∨ 8 * g + 8 ≤ (i : Int)) → A' 19 i = A 19 i ∧ A' 21 i = A 21 i) ∧ (∀ i : Nat, ((i : Int) < 96 * g ∨ 96 * g + 96 ≤ (i : Int)) → A' 20 i = A 20 i) ∧ (∀ i : Nat, ((i : Int) < 768 * g ∨ 768 * g + 768 ≤ (i : Int)) → A' 22 i = A 22 i) ∧ (∀ i : Nat, ((i : Int) < 64 * g ∨ 64 * g + 64 ≤ (i : Int)) → A' 16 i = A 16 i) ∧ (∀ i : Nat, ((i : Int) < 5 * g ∨ 5 * g + 5 ≤ (i : Int)) → A' 17 i = A 17 i) ∧ ∀ j, (j < 16 ∨ 24 < j ∨ j = 23) → A' j = A j
/-- how the reference's tag ends, once its ']' is read -/
def TEo (A0 : Nat → Nat → Int32) (I0 : Nat → Int32) (ch : Int → Int) (g : Int) (L : List (List Int × List Int)) (u w : List Int) (p e : Int) (o : Int32 × MS) : Prop := (RF2 L u w ∧ o.1.toInt = 20000 + p) ∨ (¬ RF2 L u w ∧ u = strL 0 ∧ (∀ m sd rt ps nb, ¬ FENp (wA w) (w.length : Int) m sd rt ps nb) ∧ o.1.toInt = 30000 + p) ∨ (¬ RF2 L u w ∧ o.1.toInt = 0 ∧ (o.2.1 37).toInt = e ∧ TGr o.2.2 g (L ++ [(u, w)]) ∧ ((u ≠ strL 0 ∧ (∀ j, j ≠ 37 → o.2.1 j = I0 j) ∧ o.2.2 16 = A0 16 ∧ o.2.2 17 = A0 17) ∨ (u = strL 0 ∧ (∀ j, (j < 25 ∨ (29 < j ∧ j ≠ 37 ∧ j ≠ 38 ∧ j ≠ 39)) → o.2.1 j = I0 j) ∧ ∃ m sd rt ps nb, FENp (wA w) (w.length : Int) m sd rt ps nb ∧ MBd m ∧ SPo o.2.2 g m sd rt ps nb)))
section TEN
variable {I0 I : Nat → Int32} {A0 A A1 : Nat → Nat → Int32} {ch : Int → Int} {N p q g k : Int} {u w : List Int} {o : Int32 × MS} {x1 x2 x3 x4 x5 x6 : Int32} {L : List (List Int × List Int)}
theorem nmL_o {i : Int} (h0 : 0 ≤ i) (h : i < (L.length : Int)) : nmL (L ++ [(u, w)]) i = nmL L i ∧ vlL (L ++ [(u, w)]) i = vlL L i := by
  unfold nmL vlL
  rw [gD_l _ _ _ (by omega)]
  exact ⟨rfl, rfl⟩
theorem nmL_n : nmL (L ++ [(u, w)]) (L.length : Int) = u ∧ vlL (L ++ [(u, w)]) (L.length : Int) = w := by
  unfold nmL vlL
  rw [Int.toNat_natCast, gD_r]
  exact ⟨rfl, rfl⟩
/-- the tables with a tag more, but for their count -/
theorem tgr_nm (h : TGr A0 g L) (hg : g = 0 ∨ g = 1) (hk : k = (L.length : Int)) (h8 : k ≠ 8) (a19 : ∀ i : Nat, (i : Int) ≠ 8 * g + k → A1 19 i = A0 19 i) (b19 : (A1 19 (8 * g + k).toNat).toInt = (u.length : Int)) (hu : (u.length : Int) ≤ 12) (a21 : ∀ i : Nat, (i : Int) ≠ 8 * g + k → A1 21 i = A0 21 i) (b21 : (A1 21 (8 * g + k).toNat).toInt = (w.length : Int)) (hw : (w.length : Int) ≤ 96) (a20 : ∀ i : Nat, ((i : Int) < 96 * g + 12 * k ∨ 96 * g + 12 * k + 12 ≤ (i : Int)) → A1 20 i = A0 20 i) (a22 : ∀ i : Nat, ((i : Int) < 768 * g + 96 * k ∨ 768 * g + 96 * k + 96 ≤ (i : Int)) → A1 22 i = A0 22 i) (b20 : ∀ i : Int, 0 ≤ i → i < (u.length : Int) → i < 12 → (A1 20 (96 * g + 12 * k + i).toNat).toInt = wA u i) (b22 : ∀ i : Int, 0 ≤ i → i < (w.length : Int) → i < 96 → (A1 22 (768 * g + 96 * k + i).toNat).toInt = wA w i) : NMr A1 g k u ∧ VLr A1 g k w ∧ ∀ i : Int, 0 ≤ i → i < k → NMr A1 g i (nmL L i) ∧ VLr A1 g i (vlL L i) := by
  refine ⟨⟨b19, by omega, fun i i0 i1 => b20 i i0 i1 (by omega)⟩, ⟨b21, by omega, fun i i0 i1 => b22 i i0 i1 (by omega)⟩, fun i i0 i1 => ?_⟩
  have hl := h.2.1
  obtain ⟨⟨n1, n2, n3⟩, v1, v2, v3⟩ := h.2.2 i i0 (by omega)
  refine ⟨⟨by rw [a19 _ (by omega)]; exact n1, n2, fun j j0 j1 => by rw [a20 _ (by omega)]; exact n3 j j0 j1⟩, by rw [a21 _ (by omega)]; exact v1, v2, fun j j0 j1 => by rw [a22 _ (by omega)]; exact v3 j j0 j1⟩
theorem tgr_add {A2 : Nat → Nat → Int32} (hk : k = (L.length : Int)) (h8 : (L.length : Int) < 8) (h : NMr A1 g k u ∧ VLr A1 g k w ∧ ∀ i : Int, 0 ≤ i → i < k → NMr A1 g i (nmL L i) ∧ VLr A1 g i (vlL L i)) (e : ∀ j, (j = 19 ∨ j = 20 ∨ j = 21 ∨ j = 22) → A2 j = A1 j) (e18 : (A2 18 g.toNat).toInt = k + 1) : TGr A2 g (L ++ [(u, w)]) := by
  have ll : ((L ++ [(u, w)]).length : Int) = (L.length : Int) + 1 := by rw [List.length_append]; rfl
  have tr : ∀ {i : Int} {a b : List Int}, NMr A1 g i a ∧ VLr A1 g i b → NMr A2 g i a ∧ VLr A2 g i b := fun {i a b} h => by
    unfold NMr VLr at *
    rw [e 19 (by decide), e 20 (by decide), e 21 (by decide), e 22 (by decide)]
    exact h
  refine ⟨by rw [e18, ll, hk], by omega, fun i i0 i1 => ?_⟩
  rw [ll] at i1
  by_cases ei : i = (L.length : Int)
  · rw [ei, nmL_n.1, nmL_n.2, ← hk]
    exact tr ⟨h.1, h.2.1⟩
  · obtain ⟨e1, e2⟩ := nmL_o (u := u) (w := w) i0 (show i < (L.length : Int) by omega)
    rw [e1, e2]
    exact tr (h.2.2 i i0 (by omega))
theorem v_457 (hg : g = 0 ∨ g = 1) (h1 : x1.toInt = g) (h18 : (A 18 g.toNat).toInt = k) (hk : 0 ≤ k ∧ k < 8) (hf : f_readTag_457 x1 I A = some o) : o.1.toInt = 0 ∧ o.2.1 = I ∧ (∀ j, j ≠ 18 → o.2.2 j = A j) ∧ (o.2.2 18 g.toNat).toInt = k + 1 ∧ ∀ i : Nat, (i : Int) ≠ g → o.2.2 18 i = A 18 i := by
  have xn : x1.toNatClampNeg = g.toNat := by rw [← h1]; rfl
  have k1 : ∀ v : Int32, v = A 18 x1.toNatClampNeg → v.toInt = k := fun v e => by rw [e, xn]; exact h18
  unfold f_readTag_457 at hf
  obtain ⟨-, hf⟩ := m_chkE hf
  obtain ⟨v1, e_v1, hf⟩ := m_bndE hf
  have q1 := k1 v1 e_v1
  obtain ⟨v2, e_v2, hf⟩ := m_bndE hf
  have t_v2 : v2.toInt = v1.toInt + 1 := ti_add e_v2 rfl (show (1 : Int32).toInt = 1 from rfl) (by omega) (by omega)
  obtain ⟨-, hf⟩ := m_chkE hf
  obtain ⟨A3, e_A3, hf⟩ := m_bndE hf
  cases hf
  try dsimp only
  refine ⟨rfl, rfl, fun j hj => by rw [e_A3]; exact va_up_ne _ _ hj, ?_, fun i hi => ?_⟩
  · rw [e_A3, va_up_self, xn, upd_self]; omega
  · rw [e_A3, va_up_self, xn, upd_ne (by omega)]
end TEN
