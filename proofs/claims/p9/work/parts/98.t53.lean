/-- marks in one number, a byte each -/
def pkA : Nat → Int32 → List Int → Int32
  | _, a, [] => a
  | i, a, m :: l => pkA (i + 1) (a ||| (Int32.ofInt m <<< (Int32.ofInt (8 * (i : Int)) &&& 31))) l
theorem pkA_app {m : Int} : ∀ (l : List Int) (i : Nat) (a : Int32), pkA i a (l ++ [m]) = pkA i a l ||| (Int32.ofInt m <<< (Int32.ofInt (8 * ((i + l.length : Nat) : Int)) &&& 31))
  | [], i, a => rfl
  | b :: l, i, a => by
    show pkA (i + 1) _ (l ++ [m]) = pkA (i + 1) _ l ||| _
    rw [pkA_app l (i + 1)]
    have : i + 1 + l.length = i + (b :: l).length := by
      show i + 1 + l.length = i + (l.length + 1)
      omega
    rw [this]
def pkL (l : List Int) : Int32 := pkA 0 0 l
/-- the marks of the class's node x -/
def NMk (S : ZS) (x : Nat) (K : List Int) : Prop := (zI S 4 x).toInt = (K.length : Int) ∧ zI S 5 x = pkL K
/-- marks with $ from p on (behind blanks) -/
noncomputable def mdP (ch : Int → Int) : Nat → Int → List Int → Option (Int × List Int)
  | 0, _, _ => none
  | k + 1, p, K => if ch p = 36 then (if (dgs ch 3 (p + 1) 0).1 = p + 1 ∨ (48 ≤ ch (dgs ch 3 (p + 1) 0).1 ∧ ch (dgs ch 3 (p + 1) 0).1 ≤ 57) ∨ 255 < (dgs ch 3 (p + 1) 0).2 ∨ K.length = 4 then none else mdP ch k (blk ch (dgs ch 3 (p + 1) 0).1) (K ++ [(dgs ch 3 (p + 1) 0).2])) else some (p, K)
def bdM (ch : Int → Int) (p : Int) (K : List Int) : Prop := (dgs ch 3 (p + 1) 0).1 = p + 1 ∨ (48 ≤ ch (dgs ch 3 (p + 1) 0).1 ∧ ch (dgs ch 3 (p + 1) 0).1 ≤ 57) ∨ 255 < (dgs ch 3 (p + 1) 0).2 ∨ K.length = 4
theorem md_0 {ch : Int → Int} {k : Nat} {p : Int} {K : List Int} (h : ch p ≠ 36) : mdP ch (k + 1) p K = some (p, K) := if_neg h
theorem md_n {ch : Int → Int} {k : Nat} {p : Int} {K : List Int} (h : ch p = 36) (g : bdM ch p K) : mdP ch (k + 1) p K = none := by
  show (if ch p = 36 then (if _ then none else _) else _) = _
  rw [if_pos h]; exact if_pos g
theorem md_s {ch : Int → Int} {k : Nat} {p : Int} {K : List Int} (h : ch p = 36) (g : ¬ bdM ch p K) : mdP ch (k + 1) p K = mdP ch k (blk ch (dgs ch 3 (p + 1) 0).1) (K ++ [(dgs ch 3 (p + 1) 0).2]) := by
  show (if ch p = 36 then (if _ then none else mdP ch k (blk ch (dgs ch 3 (p + 1) 0).1) (K ++ [(dgs ch 3 (p + 1) 0).2])) else _) = _
  rw [if_pos h]; exact if_neg g
/-- all marks of a move that ends at p -/
noncomputable def mkP (ch : Int → Int) (p : Int) : Option (Int × List Int) := if shM (ch (blk ch p)) (ch (blk ch p + 1)) ≤ 0 then mdP ch 2001 (blk ch p) [] else mdP ch 2001 (blk ch (blk ch p + (if shM (ch (blk ch p)) (ch (blk ch p + 1)) ≤ 2 then 1 else 2))) [shM (ch (blk ch p)) (ch (blk ch p + 1))]
theorem shM_b (c t : Int) : (shM c t = 0 ∧ c ≠ 33 ∧ c ≠ 63) ∨ (1 ≤ shM c t ∧ shM c t ≤ 6 ∧ (c = 33 ∨ c = 63) ∧ (3 ≤ shM c t → t = 33 ∨ t = 63)) := by
  unfold shM
  split
  · split
    · omega
    · split <;> omega
  · split
    · split
      · omega
      · split <;> omega
    · omega
section MKC
variable {S0 S S' : ZS} {x0 x1 : Nat} {ch : Int → Int} {N p q : Int} {K : List Int} {o : Int32 × ZS} {x2 x3 m : Int32}
/-- links of a node that stay -/
def LKs (S S' : ZS) (x : Nat) : Prop := ∀ j, j ≠ 4 → j ≠ 5 → zI S' j x = zI S j x
theorem p_putMark (hT : ZT S) (hk : zK S x0 = 4) (h : NMk S x0 K) (hl : (K.length : Int) ≤ 3) (hf : f_X4_putMark x0 m S = some o) : ZT o.2 ∧ NMk o.2 x0 (K ++ [m.toInt]) ∧ FR (fun a => a = x0) S o.2 ∧ LKs S o.2 x0 := by
  have T2 : ZT o.2 := (ok_of (t_f_X4_putMark (SZ := S) hT (a7_0 S) hk (by rw [h.1]; exact hl)) hf).1
  have hf : f_X4_putMark_0 x0 m S = some o := hf
  obtain ⟨h4, h5⟩ := h
  unfold f_X4_putMark_0 at hf
  obtain ⟨-, hf⟩ := m_chkE hf
  obtain ⟨-, hf⟩ := m_chkE hf
  obtain ⟨v1, e_v1, hf⟩ := m_bndE hf
  have t_v1 : v1.toInt = 8 * (zI S 4 x0).toInt := ti_mul e_v1 (show (8 : Int32).toInt = 8 from rfl) rfl (by omega) (by omega)
  obtain ⟨v2, e_v2, hf⟩ := m_bndE hf
  obtain ⟨v3, e_v3, hf⟩ := m_bndE hf
  obtain ⟨-, hf⟩ := m_chkE hf
  obtain ⟨S4, e_S4, hf⟩ := m_bndE hf
  have t14 : (zI S4 4 x0).toInt = (K.length : Int) := by rw [e_S4, zI_j (by decide)]; exact h4
  obtain ⟨-, hf⟩ := m_chkE hf
  obtain ⟨v5, e_v5, hf⟩ := m_bndE hf
  have t_v5 : v5.toInt = (zI S4 4 x0).toInt + 1 := ti_add e_v5 rfl (show (1 : Int32).toInt = 1 from rfl) (by omega) (by omega)
  obtain ⟨-, hf⟩ := m_chkE hf
  obtain ⟨S6, e_S6, hf⟩ := m_bndE hf
  cases hf
  try dsimp only
  have F : FR (fun a => a = x0) S S6 := fr_t (fr_I e_S4) (fr_I e_S6)
  refine ⟨T2, ⟨?_, ?_⟩, F, fun j j4 j5 => by rw [e_S6, zI_j j4, e_S4, zI_j j5]⟩
  · rw [e_S6, zI_self, List.length_append]
    have : ([m.toInt] : List Int).length = 1 := rfl
    omega
  · rw [e_S6, zI_j (by decide), e_S4, zI_self]
    unfold pkL
    rw [pkA_app, e_v3, e_v2, h5]
    have e1 : v1 = Int32.ofInt (8 * ((0 + K.length : Nat) : Int)) := i32_of (by omega)
    have e2 : m = Int32.ofInt m.toInt := i32_of rfl
    rw [e1, ← e2]
    rfl
theorem nk_23 (h : LW S ch N p) (hk : zK S x1 = 4) : x1 ≠ 23 ∧ x1 ≠ 2 := by
  obtain ⟨-, ⟨k23, -, k2⟩, -⟩ := h
  exact ⟨fun e => by rw [e, k23] at hk; exact absurd hk (by decide), fun e => by rw [e, k2] at hk; exact absurd hk (by decide)⟩
theorem lw_nd {W : Nat → Prop} (h : LW S ch N p) (hT : ZT S') (hF : FR W S S') (h2 : ¬ W 2) (h23 : ¬ W 23) : LW S' ch N p := lw_fr h hT hF h2 (by rw [(fr_e hF (by rw [h.2.1.1]; decide) h23).2.2.1]; exact h.2.2.2.2.1) h.2.2.2.2.2
/-- one mark with $ -/
theorem p_readMark (h : LW S ch N p) (hpN : p < N) (hk : zK S x1 = 4) (hm : NMk S x1 K) (hl : (K.length : Int) ≤ 4) (hf : f_X2_readMark 23 x1 S = some o) : (o.1.toInt = 1 ∧ ¬ bdM ch p K ∧ LW o.2 ch N (dgs ch 3 (p + 1) 0).1 ∧ FR (fun a => a = 23 ∨ a = x1) S o.2 ∧ NMk o.2 x1 (K ++ [(dgs ch 3 (p + 1) 0).2]) ∧ LKs S o.2 x1) ∨ (o.1.toInt = 0 ∧ bdM ch p K ∧ (∃ p', LW o.2 ch N p') ∧ FR (fun a => a = 23 ∨ a = x1) S o.2 ∧ LKs S o.2 x1) := by
  have hf : f_X2_readMark_0 23 x1 S = some o := hf
  have h4 := h.2.2.2.2
  have hn := h.2.2.1.2.2
  obtain ⟨n23, n2⟩ := nk_23 h hk
  unfold f_X2_readMark_0 at hf
  obtain ⟨-, hf⟩ := m_chkE hf
  obtain ⟨-, hf⟩ := m_chkE hf
  obtain ⟨v1, e_v1, hf⟩ := m_bndE hf
  have t_v1 : v1.toInt = (zI S 4 23).toInt + 1 := ti_add e_v1 rfl (show (1 : Int32).toInt = 1 from rfl) (by omega) (by omega)
  obtain ⟨-, hf⟩ := m_chkE hf
  obtain ⟨S2, e_S2, hf⟩ := m_bndE hf
  have L2 : LW S2 ch N (p + 1) := lw_at h e_S2 (by omega) (by omega)
  obtain ⟨-, hf⟩ := m_chkE hf
  obtain ⟨⟨r3, S3c⟩, h_r3, hf⟩ := m_calE hf
  dsimp only at hf
  obtain ⟨d1, d2, d3⟩ := p_readDigits (k := 3) L2 (by omega) (Or.inl rfl) rfl h_r3
  dsimp only at d1 d2 d3
  have db := dgs_b (ch := ch) 3 (p + 1) 0
  have dv := dgs_v (ch := ch) 3 (p + 1) 0 (by unfold DB; omega)
  have F3 : FR (fun a => a = 23) S S3c := fr_t (fr_I e_S2) d3
  have ex := fr_e F3 (show zK S x1 < 18 by rw [hk]; decide) n23
  have m3 : NMk S3c x1 K := ⟨by rw [ex.2.2.1]; exact hm.1, by rw [ex.2.2.1]; exact hm.2⟩
  obtain ⟨T3, ⟨-, p23, k2⟩, ⟨hc, hN1, -⟩, hcb, h344, hp3⟩ := id d2
  have m31 := m3.1
  have hk3 := ex.1.trans hk
  have bad : ∀ (S9 : ZS), LW S9 ch N (dgs ch 3 (p + 1) 0).1 → FR (fun a => a = 23) S3c S9 → (∃ p', LW S9 ch N p') ∧ FR (fun a => a = 23 ∨ a = x1) S S9 ∧ LKs S S9 x1 := fun S9 L9 F9 => ⟨⟨_, L9⟩, fr_m (fr_t F3 F9) (fun a _ e => Or.inl e), fun j _ _ => by rw [(fr_e F9 (by rw [hk3]; decide) n23).2.2.1, ex.2.2.1]⟩
  obtain ⟨-, hf⟩ := m_chkE hf
  obtain ⟨v4, e_v4, hf⟩ := m_bndE hf
  have t_v4 : v4.toInt = (zI S 4 23).toInt + 1 := ti_add e_v4 rfl (show (1 : Int32).toInt = 1 from rfl) (by omega) (by omega)
  rcases m_ifE hf with ⟨c1, hf⟩ | ⟨c1, hf⟩
  · skip
    replace c1 := ti_eqP (a := (zI S3c 4 23)) (b := v4) c1 rfl rfl
    obtain ⟨-, hf⟩ := m_chkE hf
    obtain ⟨-, hf⟩ := m_chkE hf
    obtain ⟨⟨r10, S10c⟩, h_r10, hf⟩ := m_calE hf
    dsimp only at hf
    obtain ⟨b1, b2, b3⟩ := lw_no (x1 := 1) d2 (by decide) (by omega) h_r10
    dsimp only at b1 b2 b3
    obtain ⟨-, hf⟩ := m_chkE hf
    cases hf
    try dsimp only
    exact Or.inr ⟨b1, Or.inl (by omega), bad _ b2 b3⟩
  · skip
    replace c1 := ti_eqN (a := (zI S3c 4 23)) (b := v4) c1 rfl rfl
    rcases m_ifE hf with ⟨c2, hf⟩ | ⟨c2, hf⟩
    · skip
      replace c2 := ti_ltP (a := (255 : Int32)) (b := r3) c2 (show (255 : Int32).toInt = 255 from rfl) rfl
      unfold f_X2_readMark_56 at hf
      obtain ⟨-, hf⟩ := m_chkE hf
      obtain ⟨⟨r9, S9⟩, h_r9, hf⟩ := m_calE hf
      dsimp only at hf
      obtain ⟨-, hf⟩ := m_chkE hf
      cases hf
      obtain ⟨b1, b2, b3⟩ := lw_no (x1 := 8) d2 (by decide) (by omega) h_r9
      exact Or.inr ⟨b1, Or.inr (Or.inr (Or.inl (by omega))), bad _ b2 b3⟩
    · skip
      replace c2 := ti_ltN (a := (255 : Int32)) (b := r3) c2 (show (255 : Int32).toInt = 255 from rfl) rfl
      obtain ⟨-, hf⟩ := m_chkE hf
      rcases m_ifE hf with ⟨c3, hf⟩ | ⟨c3, hf⟩
      · skip
        replace c3 := ti_ltP (a := (zI S3c 4 x1)) (b := (4 : Int32)) c3 rfl (show (4 : Int32).toInt = 4 from rfl)
        obtain ⟨-, hf⟩ := m_chkE hf
        replace hf := m_calY hf p23
        obtain ⟨-, hf⟩ := m_chkE hf
        obtain ⟨-, hf⟩ := m_chkE hf
        obtain ⟨r6, h_r6, hf⟩ := m_calR hf (fun _ h => ro_X6_at h)
        dsimp only at hf
        have p_r6 := pc_X6_at h_r6
        dsimp only at p_r6
        rw [hc, h344] at p_r6
        obtain ⟨r7, h_r7, hf⟩ := m_calR hf (fun _ h => ro_X11_isDigit h)
        dsimp only at hf
        have p_r7 := pc_X11_isDigit h_r7
        dsimp only at p_r7
        rw [p_r6] at p_r7
        unfold isD at p_r7
        rcases m_ifE hf with ⟨c4, hf⟩ | ⟨c4, hf⟩
        · skip
          replace c4 := ti_eqP (a := r7) (b := (0 : Int32)) c4 rfl (show (0 : Int32).toInt = 0 from rfl)
          obtain ⟨-, hf⟩ := m_chkE hf
          obtain ⟨⟨r8, S8c⟩, h_r8, hf⟩ := m_calE hf
          dsimp only at hf
          obtain ⟨a1, a2, a3, a4⟩ := p_putMark T3 hk3 m3 (by omega) h_r8
          dsimp only at a1 a2 a3 a4
          rw [d1] at a2
          obtain ⟨-, hf⟩ := m_chkE hf
          cases hf
          try dsimp only
          refine Or.inl ⟨rfl, ?_, lw_nd d2 a1 a3 (fun e => n2 e.symm) (fun e => n23 e.symm), fr_t (fr_m F3 (fun a _ e => Or.inl e)) (fr_m a3 (fun a _ e => Or.inr e)), a2, fun j j4 j5 => (a4 j j4 j5).trans (ex.2.2.1 j)⟩
          rintro (g | g | g | g)
          · omega
          · have := p_r7.2.2 g; omega
          · omega
          · omega
        · skip
          replace c4 := ti_eqN (a := r7) (b := (0 : Int32)) c4 rfl (show (0 : Int32).toInt = 0 from rfl)
          obtain ⟨-, hf⟩ := m_chkE hf
          obtain ⟨-, hf⟩ := m_chkE hf
          obtain ⟨⟨r9, S9c⟩, h_r9, hf⟩ := m_calE hf
          dsimp only at hf
          obtain ⟨b1, b2, b3⟩ := lw_no (x1 := 1) d2 (by decide) (by omega) h_r9
          dsimp only at b1 b2 b3
          obtain ⟨-, hf⟩ := m_chkE hf
          cases hf
          try dsimp only
          exact Or.inr ⟨b1, Or.inr (Or.inl (p_r7.2.1 (by omega))), bad _ b2 b3⟩
      · skip
        replace c3 := ti_ltN (a := (zI S3c 4 x1)) (b := (4 : Int32)) c3 rfl (show (4 : Int32).toInt = 4 from rfl)
        unfold f_X2_readMark_56 at hf
        obtain ⟨-, hf⟩ := m_chkE hf
        obtain ⟨⟨r9, S9⟩, h_r9, hf⟩ := m_calE hf
        dsimp only at hf
        obtain ⟨-, hf⟩ := m_chkE hf
        cases hf
        obtain ⟨b1, b2, b3⟩ := lw_no (x1 := 8) d2 (by decide) (by omega) h_r9
        exact Or.inr ⟨b1, Or.inr (Or.inr (Or.inr (by omega))), bad _ b2 b3⟩
/-- how the marks end, by the class -/
def MKo (S : ZS) (x1 : Nat) (ch : Int → Int) (N : Int) (z : Option (Int × List Int)) (o : Int32 × ZS) : Prop := (∃ e K, z = some (e, K) ∧ o.1.toInt = 1 ∧ (K.length : Int) ≤ 4 ∧ e ≤ N ∧ LW o.2 ch N e ∧ FR (fun a => a = 23 ∨ a = x1) S o.2 ∧ NMk o.2 x1 K ∧ LKs S o.2 x1) ∨ (z = none ∧ o.1.toInt = 0 ∧ (∃ p', LW o.2 ch N p') ∧ FR (fun a => a = 23 ∨ a = x1) S o.2 ∧ LKs S o.2 x1)
theorem mk_69 : ∀ (n : Nat) (x3 x4 : Int32) (S : ZS) (p : Int) (K : List Int) (k : Nat), x3.toInt = 1 → (0 ≤ x4.toInt ∧ x4.toInt ≤ p) → N < p + (k : Int) → 1 ≤ k → p ≤ N → LW S ch N p → FR (fun a => a = 23 ∨ a = x1) S0 S → zK S x1 = 4 → NMk S x1 K → (K.length : Int) ≤ 4 → LKs S0 S x1 → f_X2_readMarks_69 n 23 x1 x3 x4 S = some o → MKo S0 x1 ch N (mdP ch k p K) o := by
  intro n
  induction n with
  | zero => intro x3 x4 S p K k _ _ _ _ _ _ _ _ _ _ _ hf; cases hf
  | succ n ih =>
    intro x3 x4 S p K k h3 h4 hk hk1 hpN h hF hx hm hl hL hf
    have hf : f_X2_readMarks_69s (f_X2_readMarks_69 n) 23 x1 x3 x4 S = some o := hf
    obtain ⟨k', rfl⟩ : ∃ k', k = k' + 1 := ⟨k - 1, by omega⟩
    obtain ⟨hT, ⟨k23, p2, k2⟩, ⟨hc, hN1, hn⟩, hcb, h44, hp⟩ := id h
    have stop : ch p ≠ 36 → f_X2_readMarks_113 x3 S = some o → MKo S0 x1 ch N (mdP ch (k' + 1) p K) o := by
      intro hs hf
      unfold f_X2_readMarks_113 at hf
      obtain ⟨-, hf⟩ := m_chkE hf
      cases hf
      exact Or.inl ⟨p, K, md_0 hs, h3, hl, hpN, h, hF, hm, hL⟩
    unfold f_X2_readMarks_69s at hf
    rcases m_ifE hf with ⟨c1, hf⟩ | ⟨c1, hf⟩
    · skip
      replace c1 := ti_leP (a := (2000 : Int32)) (b := x4) c1 (show (2000 : Int32).toInt = 2000 from rfl) rfl
      exact stop (by rw [lw_out h (by omega)]; decide) hf
    · skip
      replace c1 := ti_leN (a := (2000 : Int32)) (b := x4) c1 (show (2000 : Int32).toInt = 2000 from rfl) rfl
      rcases m_ifE hf with ⟨c2, hf⟩ | ⟨c2, hf⟩
      · skip
        replace c2 := ti_eqP (a := x3) (b := (0 : Int32)) c2 rfl (show (0 : Int32).toInt = 0 from rfl)
        omega
      · skip
        replace c2 := ti_eqN (a := x3) (b := (0 : Int32)) c2 rfl (show (0 : Int32).toInt = 0 from rfl)
        obtain ⟨-, hf⟩ := m_chkE hf
        replace hf := m_calY hf p2
        obtain ⟨-, hf⟩ := m_chkE hf
        obtain ⟨-, hf⟩ := m_chkE hf
        obtain ⟨r2, h_r2, hf⟩ := m_calR hf (fun _ h => ro_X6_at h)
        dsimp only at hf
        have p_r2 := pc_X6_at h_r2
        dsimp only at p_r2
        rw [hc, h44] at p_r2
        rcases m_ifE hf with ⟨c3, hf⟩ | ⟨c3, hf⟩
        · skip
          replace c3 := ti_eqP (a := r2) (b := (36 : Int32)) c3 rfl (show (36 : Int32).toInt = 36 from rfl)
          obtain ⟨-, hf⟩ := m_chkE hf
          obtain ⟨⟨r3, S3c⟩, h_r3, hf⟩ := m_calE hf
          dsimp only at hf
          have c36 : ch p = 36 := by omega
          have pN : p < N := by
            by_cases e : p < N
            · exact e
            · have := lw_out h (show N ≤ p by omega); omega
          have g3 := p_readMark h pN hx hm hl h_r3
          dsimp only at g3
          have db := dgs_b (ch := ch) 3 (p + 1) 0
          have dN := dgs_N (ch := ch) (N := N) (fun i hi => lw_out h hi) 3 (p + 1) 0 (by omega)
          obtain ⟨-, hf⟩ := m_chkE hf
          obtain ⟨⟨r4, S4c⟩, h_r4, hf⟩ := m_calE hf
          dsimp only at hf
          obtain ⟨v5, e_v5, hf⟩ := m_bndE hf
          have t_v5 : v5.toInt = x4.toInt + 1 := ti_add e_v5 rfl (show (1 : Int32).toInt = 1 from rfl) (by omega) (by omega)
          rcases g3 with ⟨a1, a2, a3, a4, a5, a6⟩ | ⟨a1, a2, ⟨p', a3⟩, a4, a5⟩
          · rw [md_s c36 a2]
            obtain ⟨d1, d2, d3, d4⟩ := lw_bl a3 h_r4
            dsimp only at d2 d3
            have bge := d1.1
            obtain ⟨n23, n2⟩ := nk_23 h hx
            have hx3 : zK S3c x1 = 4 := (fr_k a4 (by rw [hx]; decide)).trans hx
            have ex := fr_e d3 (show zK S3c x1 < 18 by rw [hx3]; decide) n23
            refine ih r3 v5 S4c _ _ k' a1 (by omega) (by omega) (by omega) (by omega) d2 (fr_t hF (fr_t a4 (fr_m d3 (fun a _ e => Or.inl e)))) (ex.1.trans hx3) ⟨by rw [ex.2.2.1]; exact a5.1, by rw [ex.2.2.1]; exact a5.2⟩ ?_ (fun j j4 j5 => by rw [ex.2.2.1, a6 j j4 j5, hL j j4 j5]) hf
            rw [List.length_append]
            have : ([(dgs ch 3 (p + 1) 0).2] : List Int).length = 1 := rfl
            have : K.length ≠ 4 := fun e => a2 (Or.inr (Or.inr (Or.inr e)))
            omega
          · rw [md_n c36 a2]
            refine Or.inr ⟨rfl, ?_⟩
            obtain ⟨-, d2, d3, -⟩ := lw_bl a3 h_r4
            dsimp only at d2 d3
            obtain ⟨n23, n2⟩ := nk_23 h hx
            have hx3 : zK S3c x1 = 4 := (fr_k a4 (by rw [hx]; decide)).trans hx
            have fin : (∃ p', LW S4c ch N p') ∧ FR (fun a => a = 23 ∨ a = x1) S0 S4c ∧ LKs S0 S4c x1 := ⟨⟨_, d2⟩, fr_t hF (fr_t a4 (fr_m d3 (fun a _ e => Or.inl e))), fun j j4 j5 => by rw [(fr_e d3 (by rw [hx3]; decide) n23).2.2.1, a5 j j4 j5, hL j j4 j5]⟩
            cases n with
            | zero => cases hf
            | succ n =>
              have hf : f_X2_readMarks_69s (f_X2_readMarks_69 n) 23 x1 r3 v5 S4c = some o := hf
              unfold f_X2_readMarks_69s f_X2_readMarks_113 at hf
              rcases m_ifE hf with ⟨-, hf⟩ | ⟨-, hf⟩
              · obtain ⟨-, hf⟩ := m_chkE hf
                cases hf
                exact ⟨a1, fin⟩
              · rcases m_ifE hf with ⟨-, hf⟩ | ⟨cz, hf⟩
                · obtain ⟨-, hf⟩ := m_chkE hf
                  cases hf
                  exact ⟨a1, fin⟩
                · exact absurd (Int32.toInt_inj.1 a1) cz
        · skip
          replace c3 := ti_eqN (a := r2) (b := (36 : Int32)) c3 rfl (show (36 : Int32).toInt = 36 from rfl)
          exact stop (by omega) hf
/-- the class reads marks -/
theorem p_readMarks (h : LW S ch N p) (hpN : p ≤ N) (hk : zK S x1 = 4) (hm : NMk S x1 []) (hf : f_X2_readMarks 23 x1 S = some o) : MKo S x1 ch N (mkP ch p) o := by
  have hf : f_X2_readMarks_0 23 x1 S = some o := hf
  obtain ⟨n23, n2⟩ := nk_23 h hk
  have hn := h.2.2.1.2.2
  have z0 : (0 : Int32).toInt = 0 := rfl
  unfold mkP
  unfold f_X2_readMarks_0 at hf
  obtain ⟨-, hf⟩ := m_chkE hf
  obtain ⟨⟨r1, S1c⟩, h_r1, hf⟩ := m_calE hf
  dsimp only at hf
  obtain ⟨d1, d2, d3, d4⟩ := lw_bl h h_r1
  dsimp only at d2 d3
  obtain ⟨T1, ⟨k23, p2, k2⟩, ⟨hc, hN1, -⟩, hcb, h44, hp1⟩ := id d2
  have ex := fr_e d3 (show zK S x1 < 18 by rw [hk]; decide) n23
  have m1 : NMk S1c x1 [] := ⟨by rw [ex.2.2.1]; exact hm.1, by rw [ex.2.2.1]; exact hm.2⟩
  have hk1 := ex.1.trans hk
  obtain ⟨-, hf⟩ := m_chkE hf
  replace hf := m_calY hf p2
  obtain ⟨-, hf⟩ := m_chkE hf
  obtain ⟨-, hf⟩ := m_chkE hf
  obtain ⟨r3, h_r3, hf⟩ := m_calR hf (fun _ h => ro_X6_at h)
  dsimp only at hf
  have p_r3 := pc_X6_at h_r3
  dsimp only at p_r3
  rw [hc, h44] at p_r3
  obtain ⟨-, hf⟩ := m_chkE hf
  replace hf := m_calY hf p2
  obtain ⟨-, hf⟩ := m_chkE hf
  obtain ⟨v5, e_v5, hf⟩ := m_bndE hf
  have t_v5 : v5.toInt = (zI S1c 4 23).toInt + 1 := ti_add e_v5 rfl (show (1 : Int32).toInt = 1 from rfl) (by omega) (by omega)
  obtain ⟨-, hf⟩ := m_chkE hf
  obtain ⟨r6, h_r6, hf⟩ := m_calR hf (fun _ h => ro_X6_at h)
  dsimp only at hf
  have p_r6 := pc_X6_at h_r6
  dsimp only at p_r6
  rw [hc, show v5.toInt = blk ch p + 1 by omega] at p_r6
  obtain ⟨r7, h_r7, hf⟩ := m_calR hf (fun _ h => ro_X2_shortMark h)
  dsimp only at hf
  have p_r7 := pc_X2_shortMark h_r7
  dsimp only at p_r7
  rw [p_r3, p_r6] at p_r7
  rcases m_ifE hf with ⟨c1, hf⟩ | ⟨c1, hf⟩
  · skip
    replace c1 := ti_leP (a := r7) (b := (0 : Int32)) c1 rfl (show (0 : Int32).toInt = 0 from rfl)
    rw [if_pos (by omega)]
    unfold f_X2_readMarks_64 at hf
    exact mk_69 (S0 := S) mFuel 1 0 S1c (blk ch p) [] 2001 rfl (by omega) (by omega) (by decide) (by omega) d2 (fr_m d3 (fun a _ e => Or.inl e)) hk1 m1 (by decide) (fun j _ _ => ex.2.2.1 j) hf
  · skip
    replace c1 := ti_leN (a := r7) (b := (0 : Int32)) c1 rfl (show (0 : Int32).toInt = 0 from rfl)
    obtain ⟨-, hf⟩ := m_chkE hf
    obtain ⟨⟨r8, S8c⟩, h_r8, hf⟩ := m_calE hf
    dsimp only at hf
    have sb := shM_b (ch (blk ch p)) (ch (blk ch p + 1))
    rw [if_neg (show ¬ shM (ch (blk ch p)) (ch (blk ch p + 1)) ≤ 0 by omega)]
    obtain ⟨a1, a2, a3, a4⟩ := p_putMark T1 hk1 m1 (by decide) h_r8
    dsimp only at a1 a2 a3 a4
    rw [p_r7, List.nil_append] at a2
    have L8 := lw_nd d2 a1 a3 (fun e => n2 e.symm) (fun e => n23 e.symm)
    have i84 := L8.2.2.2.2.1
    have blN : blk ch p < N := by
      by_cases e : blk ch p < N
      · exact e
      · have := lw_out h (show N ≤ blk ch p by omega); omega
    have fin : ∀ (t0 : Int32) (d : Int), t0.toInt = d → (d = 1 ∨ (d = 2 ∧ 3 ≤ shM (ch (blk ch p)) (ch (blk ch p + 1)))) → f_X2_readMarks_56 23 x1 t0 (zI S8c 4 23) 23 S8c = some o → MKo S x1 ch N (mdP ch 2001 (blk ch (blk ch p + d)) [shM (ch (blk ch p)) (ch (blk ch p + 1))]) o := by
      intro t0 d ht hd hf
      have blN2 : blk ch p + d ≤ N := by
        rcases hd with e | ⟨e, e2⟩
        · omega
        · by_cases c : blk ch p + 1 < N
          · omega
          · have := lw_out h (show N ≤ blk ch p + 1 by omega)
            omega
      have db : 1 ≤ d ∧ d ≤ 2 := by omega
      unfold f_X2_readMarks_56 at hf
      obtain ⟨v1, e1, hf⟩ := m_bndE hf
      obtain ⟨-, hf⟩ := m_chkE hf
      obtain ⟨S2, e2, hf⟩ := m_bndE hf
      obtain ⟨-, hf⟩ := m_chkE hf
      obtain ⟨⟨r3, S3⟩, h_r3, hf⟩ := m_calE hf
      dsimp only at hf
      have t1 : v1.toInt = (zI S8c 4 23).toInt + t0.toInt := ti_add e1 rfl rfl (by omega) (by omega)
      have L2 : LW S2 ch N (blk ch p + d) := lw_at L8 e2 (by omega) (by omega)
      obtain ⟨f1, f2, f3, f4⟩ := lw_bl L2 h_r3
      dsimp only at f2 f3
      have fge := f1.1
      have F83 : FR (fun a => a = 23) S8c S3 := fr_t (fr_I e2) f3
      have hk8 : zK S8c x1 = 4 := (fr_k a3 (by rw [hk1]; decide)).trans hk1
      have ex3 := fr_e F83 (show zK S8c x1 < 18 by rw [hk8]; decide) n23
      unfold f_X2_readMarks_64 at hf
      exact mk_69 (S0 := S) mFuel 1 0 S3 _ _ 2001 rfl (by omega) (by omega) (by decide) (by omega) f2 (fr_t (fr_m d3 (fun a _ e => Or.inl e)) (fr_t (fr_m a3 (fun a _ e => Or.inr e)) (fr_m F83 (fun a _ e => Or.inl e)))) (ex3.1.trans hk8) ⟨by rw [ex3.2.2.1]; exact a2.1, by rw [ex3.2.2.1]; exact a2.2⟩ (by show (1 : Int) ≤ 4; decide) (fun j j4 j5 => by rw [ex3.2.2.1, a4 j j4 j5, ex.2.2.1]) hf
    obtain ⟨-, hf⟩ := m_chkE hf
    rcases m_ifE hf with ⟨c2, hf⟩ | ⟨c2, hf⟩
    · skip
      replace c2 := ti_leP (a := r7) (b := (2 : Int32)) c2 rfl (show (2 : Int32).toInt = 2 from rfl)
      rw [if_pos (show shM (ch (blk ch p)) (ch (blk ch p + 1)) ≤ 2 by omega)]
      exact fin 1 1 rfl (Or.inl rfl) hf
    · skip
      replace c2 := ti_leN (a := r7) (b := (2 : Int32)) c2 rfl (show (2 : Int32).toInt = 2 from rfl)
      rw [if_neg (show ¬ shM (ch (blk ch p)) (ch (blk ch p + 1)) ≤ 2 by omega)]
      exact fin 2 2 rfl (Or.inr ⟨rfl, by omega⟩) hf
end MKC
