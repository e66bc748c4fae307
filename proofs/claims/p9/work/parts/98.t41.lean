section RTW
variable {I : Nat → Int32} {A : Nat → Nat → Int32} {ch : Int → Int} {N p g : Int} {o : Int32 × MS} {x1 : Int32} {L : List (List Int × List Int)}
theorem wA_bd {w : List Int} {c : Int} (h : ∀ i, 0 ≤ wA w i ∧ wA w i ≤ 127) (hc : 0 ≤ c ∧ c ≤ 127) : ∀ i, 0 ≤ wA (w ++ [c]) i ∧ wA (w ++ [c]) i ≤ 127 := fun i => by
  rw [wA_app]
  split
  · exact hc
  · exact h i
theorem vl_b (hcb : ∀ i, 0 ≤ ch i ∧ ch i ≤ 127) : ∀ (k : Nat) (p : Int) (w : List Int), (∀ i, 0 ≤ wA w i ∧ wA w i ≤ 127) → ∀ i, 0 ≤ wA (vlP ch N k p w).2.2 i ∧ wA (vlP ch N k p w).2.2 i ≤ 127
  | 0, p, w, h => h
  | k + 1, p, w, h => by
    by_cases c1 : ch p = 34
    · rw [vl_q c1]; exact h
    · by_cases c2 : ch p = 92
      · by_cases c3 : ch (p + 1) = 34 ∨ ch (p + 1) = 92
        · rw [vl_e c2 c3]; exact vl_b hcb k (p + 2) _ (wA_bd h (hcb (p + 1)))
        · rw [vl_f c2 c3]; exact h
      · by_cases c3 : N ≤ p ∨ ch p = 10
        · rw [vl_n c1 c2 c3]; exact h
        · rw [vl_s c1 c2 c3]; exact vl_b hcb k (p + 1) _ (wA_bd h (hcb p))
/-- the reference's tag -/
theorem v_readTag (hI : TJ I) (hA : TK A) (hc : txR I A = ch) (hcb : ∀ i, 0 ≤ ch i ∧ ch i ≤ 127) (hn : (I 1).toInt = N) (hN : N ≤ 2000) (h37 : (I 37).toInt = p) (hp : 0 ≤ p ∧ p ≤ N) (hg : g = 0 ∨ g = 1) (h1 : x1.toInt = g) (hL : TGr A g L) (hn9 : (I 29).toInt ≤ 1999) (hf : f_readTag x1 I A = some o) : (∃ f, TPf ch N p f ∧ o.1.toInt = 10000 + f) ∨ (∃ e u w, TPk ch N p e u w ∧ TEo A I ch g L u w p (e + 1) o) := by
  have hf : f_readTag_0 x1 I A = some o := hf
  have z0 : (0 : Int32).toInt = 0 := rfl
  have z1 : (1 : Int32).toInt = 1 := rfl
  have xn : x1.toNatClampNeg = g.toNat := by rw [← h1]; rfl
  have hl := hL.2.1
  have G : TGi I A I A ch N p g (L.length : Int) [] [] := ⟨⟨hI, hA⟩, ⟨hc, hn⟩, ⟨h37, by omega, by omega⟩, fun _ _ => rfl, fun _ _ _ => rfl, fun _ _ => rfl, fun _ _ => rfl, fun _ => ⟨fun i i0 i1 _ => absurd (show i < 0 from i1) (by omega), fun i i0 i1 _ => absurd (show i < 0 from i1) (by omega)⟩, ⟨hg, by omega, by omega⟩, hcb⟩
  have e0 : ∀ i, 0 ≤ wA [] i ∧ wA [] i ≤ 127 := fun i => by
    unfold wA
    split
    · rw [show ([] : List Int).getD i.toNat 0 = 0 from rfl]; decide
    · decide
  have run : ∀ (v1 x4 : Int32), v1.toInt = (L.length : Int) → (x4.toInt = 0 ∨ x4.toInt = 1) → (x4.toInt = 1 ↔ (L.length : Int) = 8) → f_readTag_23 x1 (I 37) v1 x4 I A = some o → (∃ f, TPf ch N p f ∧ o.1.toInt = 10000 + f) ∨ (∃ e u w, TPk ch N p e u w ∧ TEo A I ch g L u w p (e + 1) o) := by
    intro v1 x4 hv h4 h48 hf
    rcases rt_23 hN G hp.2 h1 hv h4 h48 hf with a | ⟨n0, n1, q0, q, I1, A1, n, y5, y6, a1, a2, a3, a4, a5, a6, a7, a8, a9, a10, a11, a12, a13⟩
    · exact Or.inl a
    · have wl := wr_len (ch := ch) (a := n0) (n1 - n0).toNat
      have g9 := rt_end (p := p) hN a12 a8 a9 hL rfl (vl_b hcb 2001 (q0 + 1) [] e0) hn9 h1 h37 (by omega) hv h4 h48 (by rw [wl]; omega) a11 a13
      rw [a7] at g9
      rcases g9 with ⟨e, b1, b2, b3⟩ | ⟨e, b1, b2, b3⟩
      · exact Or.inl ⟨e, ⟨n0, n1, a1, a2, Or.inr ⟨a3, q0, a4, Or.inr ⟨a5, Or.inr ⟨a6, e, b1, b2, rfl⟩⟩⟩⟩, b3⟩
      · exact Or.inr ⟨e, _, _, ⟨n0, n1, q0, a1, a2, a3, a4, a5, a6, b1, b2, rfl, rfl⟩, b3⟩
  unfold f_readTag_0 at hf
  obtain ⟨-, hf⟩ := m_chkE hf
  obtain ⟨v1, e1, hf⟩ := m_bndE hf
  have q1 : v1.toInt = (L.length : Int) := by rw [e1, xn]; exact hL.1
  rcases m_ifE hf with ⟨c1, hf⟩ | ⟨c1, hf⟩
  · replace c1 := ti_eqP (a := v1) (b := (8 : Int32)) c1 rfl (show (8 : Int32).toInt = 8 from rfl)
    exact run v1 1 q1 (Or.inr rfl) ⟨fun _ => by omega, fun _ => rfl⟩ hf
  · replace c1 := ti_eqN (a := v1) (b := (8 : Int32)) c1 rfl (show (8 : Int32).toInt = 8 from rfl)
    exact run v1 0 q1 (Or.inl rfl) ⟨fun e => absurd e (by decide), fun e => by omega⟩ hf
end RTW
