section MKA
variable {S S' : ZS} {g c k : Nat} {I I' : Nat → Int32} {A A' : Nat → Nat → Int32} {T : TRa} {x1 x2 : Int32} {o2 : Int32 × MS}
theorem pk_1 : ∀ n : Nat, n < 256 → (Int32.ofInt (n : Int)).toBitVec.toNat = n := by decide +kernel
theorem pk_m {m : Int} (h : 0 ≤ m ∧ m ≤ 255) : (Int32.ofInt m).toBitVec.toNat = m.toNat := by
  have := pk_1 m.toNat (by omega)
  rw [show ((m.toNat : Nat) : Int) = m by omega] at this
  exact this
theorem pk_sh {M : Int32} (hM : M.toBitVec.toNat < 256) : ∀ i : Nat, i ≤ 3 → (M <<< (Int32.ofInt (8 * (i : Int)) &&& 31)).toBitVec.toNat = 2 ^ (8 * i) * M.toBitVec.toNat := by
  have sh : ∀ n : Nat, n ≤ 24 → (M.toBitVec <<< n).toNat = 2 ^ n * M.toBitVec.toNat := fun n hn => by
    rw [BitVec.toNat_shiftLeft, Nat.shiftLeft_eq, Nat.mul_comm]
    apply Nat.mod_eq_of_lt
    have : 2 ^ n ≤ 2 ^ 24 := Nat.pow_le_pow_right (by decide) hn
    have h2 : 2 ^ n * M.toBitVec.toNat ≤ 2 ^ 24 * 255 := Nat.mul_le_mul this (by omega)
    exact Nat.lt_of_le_of_lt h2 (by decide)
  intro i hi
  rcases (show i = 0 ∨ i = 1 ∨ i = 2 ∨ i = 3 by omega) with e | e | e | e
  · subst e; exact sh 0 (by decide)
  · subst e; exact sh 8 (by decide)
  · subst e; exact sh 16 (by decide)
  · subst e; exact sh 24 (by decide)
theorem pk_or {a M : Int32} {i : Nat} (hi : i ≤ 3) (ha : a.toBitVec.toNat < 2 ^ (8 * i)) (hM : M.toBitVec.toNat < 256) : (a ||| (M <<< (Int32.ofInt (8 * (i : Int)) &&& 31))).toBitVec.toNat = 2 ^ (8 * i) * M.toBitVec.toNat + a.toBitVec.toNat := by
  have e : (a ||| (M <<< (Int32.ofInt (8 * (i : Int)) &&& 31))).toBitVec = a.toBitVec ||| (M <<< (Int32.ofInt (8 * (i : Int)) &&& 31)).toBitVec := rfl
  rw [e, BitVec.toNat_or, pk_sh hM i hi, Nat.two_pow_add_eq_or_of_lt ha, Nat.or_comm]
theorem pkA_n : ∀ (l : List Int) (i : Nat) (a : Int32), i + l.length ≤ 4 → a.toBitVec.toNat < 2 ^ (8 * i) → (∀ m ∈ l, 0 ≤ m ∧ m ≤ 255) → (pkA i a l).toBitVec.toNat % 2 ^ (8 * i) = a.toBitVec.toNat ∧ ∀ (j : Nat) (hj : j < l.length), (pkA i a l).toBitVec.toNat / 2 ^ (8 * (i + j)) % 256 = (l[j]).toNat
  | [], i, a, _, ha, _ => ⟨Nat.mod_eq_of_lt ha, fun j hj => absurd hj (Nat.not_lt_zero _)⟩
  | m :: l, i, a, hl, ha, hm => by
    have hl2 : i + (l.length + 1) ≤ 4 := hl
    have hm0 := hm m List.mem_cons_self
    have hmn : (Int32.ofInt m).toBitVec.toNat = m.toNat := pk_m hm0
    have q := pk_or (a := a) (M := Int32.ofInt m) (i := i) (by omega) ha (by omega)
    rw [hmn] at q
    have hlt : (a ||| (Int32.ofInt m <<< (Int32.ofInt (8 * (i : Int)) &&& 31))).toBitVec.toNat < 2 ^ (8 * (i + 1)) := by
      rw [q]
      rcases (show i = 0 ∨ i = 1 ∨ i = 2 ∨ i = 3 by omega) with e | e | e | e <;> subst e <;> simp only [Nat.reduceMul, Nat.reduceAdd, Nat.reducePow] at ha ⊢ <;> omega
    obtain ⟨r1, r2⟩ := pkA_n l (i + 1) _ (by omega) hlt (fun x hx => hm x (List.mem_cons_of_mem _ hx))
    have e : pkA i a (m :: l) = pkA (i + 1) (a ||| (Int32.ofInt m <<< (Int32.ofInt (8 * (i : Int)) &&& 31))) l := rfl
    rw [e]
    rw [q] at r1
    generalize (pkA (i + 1) (a ||| (Int32.ofInt m <<< (Int32.ofInt (8 * (i : Int)) &&& 31))) l).toBitVec.toNat = R at r1 r2 ⊢
    generalize a.toBitVec.toNat = an at ha r1 ⊢
    refine ⟨?_, fun j hj => ?_⟩
    · rcases (show i = 0 ∨ i = 1 ∨ i = 2 ∨ i = 3 by omega) with e | e | e | e <;> subst e <;> simp only [Nat.reduceMul, Nat.reduceAdd, Nat.reducePow] at ha r1 ⊢ <;> omega
    · cases j with
      | zero =>
        show R / 2 ^ (8 * (i + 0)) % 256 = m.toNat
        rcases (show i = 0 ∨ i = 1 ∨ i = 2 ∨ i = 3 by omega) with e | e | e | e <;> subst e <;> simp only [Nat.reduceMul, Nat.reduceAdd, Nat.reducePow] at ha r1 ⊢ <;> omega
      | succ j =>
        have := r2 j (Nat.lt_of_succ_lt_succ hj)
        rw [show i + 1 + j = i + (j + 1) by omega] at this
        exact this
/-- a mark out of the class's int -/
theorem c_markAt {K : List Int} {o : Int32 × ZS} {x : Nat} (h : NMk S x K) (hl : K.length ≤ 4) (hK : ∀ m ∈ K, 0 ≤ m ∧ m ≤ 255) (hx : x2.toInt = (k : Int)) (hk : k < K.length) (hf : f_X4_markAt x x2 S = some o) : o.1.toInt = wA K (k : Int) := by
  have hf : f_X4_markAt_0 x x2 S = some o := hf
  unfold f_X4_markAt_0 at hf
  obtain ⟨-, hf⟩ := m_chkE hf
  obtain ⟨v1, e1, hf⟩ := m_bndE hf
  obtain ⟨v2, e2, hf⟩ := m_bndE hf
  obtain ⟨v3, e3, hf⟩ := m_bndE hf
  cases hf
  have e8 : x2 = Int32.ofInt (k : Int) := Int32.toInt_inj.1 (by
    rw [hx]
    have : ∀ k : Nat, k < 4 → (Int32.ofInt (k : Int)).toInt = (k : Int) := by decide
    exact (this k (by omega)).symm)
  rw [h.2] at e2
  rw [wA_in hk]
  obtain ⟨-, q⟩ := pkA_n K 0 0 (by omega) (by decide) hK
  have q := q k hk
  rw [Nat.zero_add] at q
  have e9 : v3 = Int32.ofInt ((((pkL K).toBitVec.toNat / 2 ^ (8 * k) % 256 : Nat)) : Int) := by
    rw [e3, e2, e1, e8]
    generalize pkL K = X
    have key : ∀ (X : Int32) (s : Nat), s < 32 → ((X.toUInt32 >>> (UInt32.ofNat s)).toInt32 &&& (255 : Int32)).toBitVec.toNat = X.toBitVec.toNat / 2 ^ s % 256 := fun X s hs => by
      have e : ((X.toUInt32 >>> (UInt32.ofNat s)).toInt32 &&& (255 : Int32)).toBitVec = (X.toBitVec >>> ((UInt32.ofNat s).toBitVec % 32)) &&& 255#32 := rfl
      have en : ((UInt32.ofNat s).toBitVec % 32).toNat = s := by
        have : ∀ s : Nat, s < 32 → ((UInt32.ofNat s).toBitVec % 32).toNat = s := by decide
        exact this s hs
      rw [e, BitVec.toNat_and]
      have e2 : (X.toBitVec >>> ((UInt32.ofNat s).toBitVec % 32)).toNat = X.toBitVec.toNat / 2 ^ s := by
        show (X.toBitVec >>> ((UInt32.ofNat s).toBitVec % 32).toNat).toNat = _
        rw [en, BitVec.toNat_ushiftRight, Nat.shiftRight_eq_div_pow]
      rw [e2]
      show X.toBitVec.toNat / 2 ^ s &&& (2 ^ 8 - 1) = _
      rw [Nat.and_two_pow_sub_one_eq_mod]
    have inj : ∀ (a : Int32) (n : Nat), n < 256 → a.toBitVec.toNat = n → a = Int32.ofInt (n : Int) := fun a n hn he => by
      apply Int32.toBitVec_inj.1
      apply BitVec.eq_of_toNat_eq
      rw [he, pk_1 n hn]
    apply inj _ _ (Nat.mod_lt _ (by decide))
    rcases (show k = 0 ∨ k = 1 ∨ k = 2 ∨ k = 3 by omega) with e | e | e | e
    · subst e; exact key X 0 (by decide)
    · subst e; exact key X 8 (by decide)
    · subst e; exact key X 16 (by decide)
    · subst e; exact key X 24 (by decide)
  have q2 : (pkL K).toBitVec.toNat / 2 ^ (8 * k) % 256 = (K[k]).toNat := q
  have hb := hK _ (List.getElem_mem hk)
  show v3.toInt = K[k]
  rw [e9, q2]
  have : ∀ n : Nat, n < 256 → (Int32.ofInt (n : Int)).toInt = (n : Int) := by decide +kernel
  rw [this _ (by omega)]
  omega
theorem an_mark {o : (Nat × Int32) × ZS} (hC : CG S) (hR : RIt I A) (h : FM I A S) (h2 : f_mark x1 x2 I A = some o2) (ho : d_X11_mark 1 x1 x2 S = some o) : (o.1.1 = 0 ∧ o2.2.1 0 = 0 ∧ o.1.2 = o2.1) ∨ (o.1.1 = 2 ∧ o2.2.1 0 = 1) := by
  obtain ⟨hm, g, L, st, T, r, c, w⟩ := h
  obtain ⟨⟨p7, gc⟩, gr, -⟩ := id w
  obtain ⟨hw, -, -, h3⟩ := fw_w w
  have hgg := (sc_7 hm.1 p7).1
  have h5b : 0 ≤ (I 5).toInt ∧ (I 5).toInt ≤ 1 := hR.1 5
  have hf : d_X11_mark_0 1 x1 x2 S = some o := ho
  have hr : f_mark_0 x1 x2 I A = some o2 := h2
  have z0 : (0 : Int32).toInt = 0 := rfl
  have bad : ∀ {S1 : ZS}, d_X11_mark_30 S1 = some o → f_mark_32 x1 x2 I A = some o2 → (o.1.1 = 0 ∧ o2.2.1 0 = 0 ∧ o.1.2 = o2.1) ∨ (o.1.1 = 2 ∧ o2.2.1 0 = 1) := fun {S1} ha hb => by
    unfold d_X11_mark_30 at ha
    unfold f_mark_32 f_mark_37 at hb
    obtain ⟨I1, e1, hb⟩ := m_bndE hb
    rcases m_ifE hb with ⟨d, hb⟩ | ⟨-, hb⟩
    · rw [e1, upd_self] at d
      exact absurd d (by decide)
    · unfold f_mark_70 at hb
      have e := (Option.some.inj ha).symm
      have e2 := (Option.some.inj hb).symm
      rw [e, e2]
      exact Or.inr ⟨rfl, by show I1 0 = 1; rw [e1, upd_self]⟩
  unfold d_X11_mark_0 at hf
  unfold f_mark_0 at hr
  obtain ⟨-, hf⟩ := m_chkE hf
  replace hf := m_calY hf p7
  obtain ⟨-, hf⟩ := m_chkE hf
  obtain ⟨⟨y2, S2⟩, h_2, hf⟩ := m_calE hf
  obtain ⟨-, hf⟩ := m_chkE hf
  obtain ⟨e2, q2⟩ := fm_has hC hgg gc.1.1 h_2
  dsimp only at e2 q2 hf
  rw [e2] at hf
  obtain ⟨⟨r1, Ic1, Ac1⟩, h_r1, hr⟩ := m_clE hr
  dsimp only at hr
  obtain ⟨e1, q1⟩ := fm_isNode h5b hR.2.1 gr.1.1 h_r1
  have i1 : Ic1 = I := congrArg Prod.fst e1
  have a1 : Ac1 = A := congrArg Prod.snd e1
  rw [i1, a1] at hr
  dsimp only at q1
  rcases m_ifE hf with ⟨d, hf⟩ | ⟨d, hf⟩
  · rw [d] at q2
    have hn : ¬ (0 ≤ x1.toInt ∧ x1.toInt ≤ (tn T : Int)) := by
      rcases q2 with ⟨q, -⟩ | ⟨-, q⟩
      · exact absurd q (by decide)
      · exact q
    rcases m_ifE hr with ⟨-, hr⟩ | ⟨d2, hr⟩
    · exact bad hf hr
    · rcases q1 with ⟨-, q⟩ | ⟨q, -⟩
      · exact absurd q hn
      · exact absurd (i32_of q) d2
  · have hn : 0 ≤ x1.toInt ∧ x1.toInt ≤ (tn T : Int) := by
      rcases q2 with ⟨-, q⟩ | ⟨q, -⟩
      · exact q
      · exact absurd (i32_of q) d
    obtain ⟨nd, hx⟩ : ∃ nd : Nat, x1.toInt = (nd : Int) := ⟨x1.toInt.toNat, by omega⟩
    have hnd : nd ≤ tn T := by omega
    have ex : x1.toInt.toNat = nd := by omega
    rcases m_ifE hr with ⟨d2, hr⟩ | ⟨-, hr⟩
    · rw [d2] at q1
      rcases q1 with ⟨q, -⟩ | ⟨-, q⟩
      · exact absurd q (by decide)
      · exact absurd hn q
    · rcases m_ifE hf with ⟨d3, hf⟩ | ⟨d3, hf⟩
      · rcases m_ifE hr with ⟨-, hr⟩ | ⟨d4, hr⟩
        · exact bad hf hr
        · exact absurd d3 d4
      · rcases m_ifE hr with ⟨d4, hr⟩ | ⟨-, hr⟩
        · exact absurd d4 d3
        · replace d3 := ti_ltN (a := x2) (b := (0 : Int32)) d3 rfl z0
          obtain ⟨-, NM, -⟩ := gc.1.1.2.2.2 nd hnd
          obtain ⟨-, NK, -⟩ := gr.1.1.2.2 nd hnd
          have l4 := (hw.2.2.1 nd).2
          obtain ⟨-, hf⟩ := m_chkE hf
          replace hf := m_calY hf p7
          obtain ⟨-, hf⟩ := m_chkE hf
          obtain ⟨⟨n4, S4⟩, h_4, hf⟩ := m_calE hf
          obtain ⟨e4, q4⟩ := p_at hC hgg gc.1.1 hn.1 hn.2 h_4
          rw [ex] at q4
          obtain ⟨-, hf⟩ := m_chkE hf
          dsimp only at hf
          rw [e4, q4] at hf
          obtain ⟨-, hf⟩ := m_chkE hf
          obtain ⟨v2, f2, hr⟩ := m_bndE hr
          obtain ⟨v3, f3, hr⟩ := m_bndE hr
          have s2 : v2.toInt = 301 * (I 5).toInt := ti_mul f2 (show (301 : Int32).toInt = 301 from rfl) rfl (by omega) (by omega)
          have s3 : v3.toInt = v2.toInt + x1.toInt := ti_add f3 rfl rfl (by omega) (by omega)
          obtain ⟨-, hr⟩ := m_chkE hr
          obtain ⟨v4, f4, hr⟩ := m_bndE hr
          rw [cl_n (n := 301 * (I 5).toInt.toNat + nd) (by omega)] at f4
          have s4 : v4.toInt = ((tK T nd).length : Int) := by rw [f4]; exact NK.1
          have t4 : (zI S 4 (nk S (g + 3) (g + 5) nd)).toInt = ((tK T nd).length : Int) := NM.1
          rcases m_ifE hf with ⟨d5, hf⟩ | ⟨d5, hf⟩
          · replace d5 := ti_ltP (a := x2) (b := zI S 4 (nk S (g + 3) (g + 5) nd)) d5 rfl rfl
            rcases m_ifE hr with ⟨-, hr⟩ | ⟨d6, hr⟩
            · obtain ⟨-, hf⟩ := m_chkE hf
              replace hf := m_calY hf p7
              obtain ⟨-, hf⟩ := m_chkE hf
              obtain ⟨⟨n8, S8⟩, h_8, hf⟩ := m_calE hf
              obtain ⟨e8, q8⟩ := p_at hC hgg gc.1.1 hn.1 hn.2 h_8
              rw [ex] at q8
              obtain ⟨-, hf⟩ := m_chkE hf
              dsimp only at hf
              rw [e8, q8] at hf
              obtain ⟨-, hf⟩ := m_chkE hf
              obtain ⟨⟨y10, S10⟩, h_10, hf⟩ := m_calE hf
              obtain ⟨-, hf⟩ := m_chkE hf
              have hK : ∀ m ∈ tK T nd, 0 ≤ m ∧ m ≤ 255 := fun m hm9 => by
                obtain ⟨i, hi, ei⟩ := List.mem_iff_getElem.1 hm9
                have q := NK.2 i hi
                rw [wA_in hi, ei] at q
                have b : 0 ≤ (A 13 (4 * (301 * (I 5).toInt.toNat + nd) + i)).toInt ∧ (A 13 (4 * (301 * (I 5).toInt.toNat + nd) + i)).toInt ≤ 255 := hR.2.1 13 _
                omega
              have q10 := c_markAt (k := x2.toInt.toNat) NM l4 hK (by omega) (by omega) h_10
              unfold f_mark_37 at hr
              obtain ⟨I1, g1, hr⟩ := m_bndE hr
              have j0 : I1 0 = 0 := by rw [g1, upd_self]
              have j5 : I1 5 = I 5 := by rw [g1, upd_ne (by decide)]
              rcases m_ifE hr with ⟨-, hr⟩ | ⟨d7, hr⟩
              · obtain ⟨u2, g2, hr⟩ := m_bndE hr
                obtain ⟨u3, g3, hr⟩ := m_bndE hr
                obtain ⟨u4, g4, hr⟩ := m_bndE hr
                obtain ⟨u5, g5, hr⟩ := m_bndE hr
                rw [j5] at g2
                have w2 : u2.toInt = 301 * (I 5).toInt := ti_mul g2 (show (301 : Int32).toInt = 301 from rfl) rfl (by omega) (by omega)
                have w3 : u3.toInt = u2.toInt + x1.toInt := ti_add g3 rfl rfl (by omega) (by omega)
                have w4 : u4.toInt = 4 * u3.toInt := ti_mul g4 (show (4 : Int32).toInt = 4 from rfl) rfl (by omega) (by omega)
                have w5 : u5.toInt = u4.toInt + x2.toInt := ti_add g5 rfl rfl (by omega) (by omega)
                obtain ⟨-, hr⟩ := m_chkE hr
                obtain ⟨u6, g6, hr⟩ := m_bndE hr
                rw [cl_n (n := 4 * (301 * (I 5).toInt.toNat + nd) + x2.toInt.toNat) (by omega)] at g6
                unfold f_mark_70 at hr
                have eo := (Option.some.inj hf).symm
                have eo2 := (Option.some.inj hr).symm
                have q := NK.2 x2.toInt.toNat (by omega)
                rw [← g6] at q
                rw [eo, eo2]
                exact Or.inl ⟨rfl, j0, Int32.toInt_inj.1 (by show y10.toInt = u6.toInt; exact q10.trans q.symm)⟩
              · exact absurd (show I1 0 ≤ 0 by rw [j0]; decide) d7
            · replace d6 := ti_ltN (a := x2) (b := v4) d6 rfl rfl
              omega
          · replace d5 := ti_ltN (a := x2) (b := zI S 4 (nk S (g + 3) (g + 5) nd)) d5 rfl rfl
            rcases m_ifE hr with ⟨d6, hr⟩ | ⟨-, hr⟩
            · replace d6 := ti_ltP (a := x2) (b := v4) d6 rfl rfl
              omega
            · exact bad hf hr
end MKA
