theorem i_of {x : Int32} (h : ¬ x < 0) : x = nI x.toNatClampNeg := by
  have h3 : (0 : Int32).toInt = 0 := rfl
  rw [Int32.lt_iff_toInt_lt, h3] at h
  have h4 : x.toInt < 2 ^ 31 := Int32.toInt_lt x
  have h5 : x.toNatClampNeg = x.toInt.toNat := rfl
  apply Int32.toInt_inj.mp
  rw [nI_toInt (by omega)]
  omega
/-- a number between 0 and N is one of the list -/
theorem m_calS {α β : Type} {x : α} {k : α → Option β} : m_cal (some x) k = k x := rfl
theorem m_bndS {α β : Type} {x : α} {k : α → Option β} : m_bnd x k = k x := rfl
abbrev FR (I : Nat → Int32) (A : Nat → Nat → Int32) : Prop := I 1 = 0 ∧ I 3 = 0 ∧ I 5 = 0 ∧ I 6 = 0 ∧ I 33 = 20 ∧ A 7 0 = 0 ∧ A 12 0 = 0 ∧ A 14 0 = 0 ∧ A 18 0 = 0
abbrev FC (S : ZS) : Prop := zK S 1 = 11 ∧ zP S 0 1 = some 2 ∧ zP S 1 1 = some 3 ∧ zP S 2 1 = some 4 ∧ zP S 7 1 = some 99 ∧ zP S 9 1 = some 107 ∧ zI S 8 1 = 0 ∧ zK S 2 = 6 ∧ zI S 1 2 = 0 ∧ zK S 3 = 6 ∧ zI S 1 3 = 0 ∧ zK S 4 = 7 ∧ zK S 99 = 1 ∧ zI S 3 99 = 0 ∧ zI S 5 99 = 0 ∧ zP S 1 99 = some 102 ∧ zK S 102 = 4 ∧ zI S 4 102 = 0 ∧ zP S 6 102 = some 103 ∧ zK S 103 = 6 ∧ zI S 1 103 = 0 ∧ zK S 107 = 0
theorem and255 (y : Int64) : ∃ r : Nat, r < 256 ∧ y &&& (255 : Int64) = Int64.ofNat r := by
  refine ⟨y.toBitVec.toNat % 256, Nat.mod_lt _ (by decide), ?_⟩
  apply Int64.toBitVec_inj.mp
  apply BitVec.eq_of_toNat_eq
  show (y.toBitVec &&& 255#64).toNat = (BitVec.ofNat 64 (y.toBitVec.toNat % 256)).toNat
  rw [BitVec.toNat_and]
  show y.toBitVec.toNat &&& (2 ^ 8 - 1) = _
  rw [Nat.and_two_pow_sub_one_eq_mod, BitVec.toNat_ofNat]
  exact (Nat.mod_eq_of_lt (by omega)).symm
theorem b255 : ∀ i, i < 64 → 8 ≤ i → (255#64).getLsbD i = false := by decide
theorem sh_bv (v : BitVec 64) {s : Nat} (hs : s ≤ 56) : (v.sshiftRight s) &&& 255#64 = (v >>> s) &&& 255#64 := by
  apply BitVec.eq_of_getLsbD_eq
  intro i hi
  rw [BitVec.getLsbD_and, BitVec.getLsbD_and, BitVec.getLsbD_sshiftRight, BitVec.getLsbD_ushiftRight]
  by_cases h8 : i < 8
  · have h1 : s + i < 64 := by omega
    have h2 : ¬ 64 ≤ i := by omega
    simp [h1, h2]
  · rw [b255 i hi (by omega), Bool.and_false, Bool.and_false]
theorem sh_eq (x : Int64) {k : Nat} (hk : k < 8) : (x >>> (((8 : Int32) * nI k).toInt64 &&& 63)) &&& (255 : Int64) = (((x).toUInt64 >>> (((8 : Int32) * nI k).toInt64.toUInt64 &&& Int64.toUInt64 63)).toInt64) &&& (255 : Int64) := by
  apply Int64.toBitVec_inj.mp
  match k, hk with
  | 0, _ => exact sh_bv x.toBitVec (s := 0) (by omega)
  | 1, _ => exact sh_bv x.toBitVec (s := 8) (by omega)
  | 2, _ => exact sh_bv x.toBitVec (s := 16) (by omega)
  | 3, _ => exact sh_bv x.toBitVec (s := 24) (by omega)
  | 4, _ => exact sh_bv x.toBitVec (s := 32) (by omega)
  | 5, _ => exact sh_bv x.toBitVec (s := 40) (by omega)
  | 6, _ => exact sh_bv x.toBitVec (s := 48) (by omega)
  | 7, _ => exact sh_bv x.toBitVec (s := 56) (by omega)
theorem ch_all : ∀ r : Nat, r < 256 → (((Int64.ofNat r).toInt32).toUInt32 % 65536).toInt32 = nI r ∧ vp_nar .char (nI r) = nI r ∧ ((lg_cmp (Int64.ofNat r) 10 = 0) ↔ (nI r = 10)) ∧ ((lg_cmp (Int64.ofNat r) 32 < 0) ↔ (nI r < 32)) ∧ ((lg_cmp (Int64.ofNat r) 126 ≤ 0) ↔ (nI r ≤ 126)) := by decide +kernel
theorem m_cal2S {α β : Type} {v : α} {S : ZS} {k : α → ZS → Option β} : m_cal2 (some (v, S)) k = k v S := rfl
section TY
variable {I : Nat → Int32} {A : Nat → Nat → Int32} {S : ZS} {x : Int64} {L : Nat}
theorem byte_of (S : ZS) {k r : Nat} (hk : k < 8) (hr : r < 256) (e : (x >>> (((8 : Int32) * nI k).toInt64 &&& 63)) &&& (255 : Int64) = Int64.ofNat r) : f_X11_byteOf x (nI k) S = some (nI r, S) := by
  unfold f_X11_byteOf f_X11_byteOf_0
  rw [m_bndS, m_bndS, m_bndS, ← sh_eq x hk, e, m_bndS, m_bndS, (ch_all r hr).1, m_chkP (ch_all r hr).2.1]
theorem ty_33 (hL : L ≤ 8) (n : Nat) : ∀ j : Nat, j ≤ L → L < j + n → (f_type_33 n x (nI L) (nI j) I A = f_type_90 mFuel x (nI L) 0 I A ∧ d_X11_type_31 n 1 x (nI L) (nI j) S = d_X11_type_77 mFuel 1 x (nI L) 0 S) ∨ (f_type_33 n x (nI L) (nI j) I A = some (0, (I, A)) ∧ d_X11_type_31 n 1 x (nI L) (nI j) S = some (0, S)) := by
  induction n with
  | zero => intro j h1 h2; omega
  | succ n ih =>
    intro j h1 h2
    show (f_type_33s (f_type_33 n) x (nI L) (nI j) I A = f_type_90 mFuel x (nI L) 0 I A ∧ d_X11_type_31s (d_X11_type_31 n) 1 x (nI L) (nI j) S = d_X11_type_77 mFuel 1 x (nI L) 0 S) ∨ (f_type_33s (f_type_33 n) x (nI L) (nI j) I A = some (0, (I, A)) ∧ d_X11_type_31s (d_X11_type_31 n) 1 x (nI L) (nI j) S = some (0, S))
    unfold f_type_33s d_X11_type_31s
    by_cases hc : nI L ≤ nI j
    · rw [m_ifP hc, m_ifP hc]
      exact Or.inl ⟨rfl, rfl⟩
    have hj : j < L := Classical.byContradiction (fun h => hc (nI_le (by omega) (by omega)))
    obtain ⟨r, hr, er⟩ := and255 (x >>> (((8 : Int32) * nI j).toInt64 &&& 63))
    obtain ⟨-, -, c1, c2, c3⟩ := ch_all r hr
    rw [m_ifN hc, m_ifN hc, m_bndS, m_bndS, m_bndS, er, m_bndS, byte_of S (by omega : j < 8) hr er, m_calS, m_chkP ⟨rfl, rfl⟩]
    have go : (f_type_81 (f_type_33 n) x (nI L) (nI j) I A = f_type_90 mFuel x (nI L) 0 I A ∧ d_X11_type_68 (d_X11_type_31 n) 1 x (nI L) (nI j) S = d_X11_type_77 mFuel 1 x (nI L) 0 S) ∨ (f_type_81 (f_type_33 n) x (nI L) (nI j) I A = some (0, (I, A)) ∧ d_X11_type_68 (d_X11_type_31 n) 1 x (nI L) (nI j) S = some (0, S)) := by
      unfold f_type_81 d_X11_type_68
      rw [m_bndS, m_bndS, nI_1]
      exact ih (j + 1) (by omega) (by omega)
    by_cases d1 : nI r = 10
    · rw [m_ifP (c1.mpr d1), m_ifP d1]
      exact go
    rw [m_ifN (fun h => d1 (c1.mp h)), m_ifN d1, m_bndS]
    by_cases d2 : nI r < 32
    · rw [m_ifP (c2.mpr d2), m_ifP d2]
      exact Or.inr ⟨rfl, rfl⟩
    rw [m_ifN (fun h => d2 (c2.mp h)), m_ifN d2, m_bndS]
    by_cases d3 : nI r ≤ 126
    · rw [m_ifP (c3.mpr d3), m_ifP d3]
      exact go
    · rw [m_ifN (fun h => d3 (c3.mp h)), m_ifN d3]
      exact Or.inr ⟨rfl, rfl⟩
end TY
/-- the text's length stays, or is 0 -/
def E1 (I I' : Nat → Int32) : Prop := I' 1 = I 1 ∨ I' 1 = 0
theorem e1_0 {I : Nat → Int32} : E1 I I := Or.inl rfl
theorem e1_t {I I1 I2 : Nat → Int32} (h : E1 I I1) (h2 : E1 I1 I2) : E1 I I2 := by
  rcases h2 with e | e
  · rcases h with d | d
    · exact Or.inl (e.trans d)
    · exact Or.inr (e.trans d)
  · exact Or.inr e
theorem e1_I {I0 I I' : Nat → Int32} {k : Nat} {v : Int32} (h : E1 I0 I) (e : I' = upd I k v) (hd : k ≠ 1 ∨ v = 0) : E1 I0 I' := by
  by_cases hk : k = 1
  · subst hk
    rcases hd with hd | hd
    · exact absurd rfl hd
    · exact Or.inr (by rw [e, upd_self]; exact hd)
  · have : I' 1 = I 1 := by rw [e]; exact upd_ne (fun h => hk h.symm)
    rcases h with h | h
    · exact Or.inl (this.trans h)
    · exact Or.inr (this.trans h)
theorem e1_f {W V : List Nat} {I I' : Nat → Int32} {A A' : Nat → Nat → Int32} (f : FrS W V I A I' A') (h : 1 ∉ W) : E1 I I' := Or.inl (f.1 1 h)
theorem fe_say_102s {o : Int32 × MS} {self102 : Int32 → Int32 → (Nat → Int32) → (Nat → Nat → Int32) → Option (Int32 × MS)} {x2 : Int32} {x3 : Int32} {I : Nat → Int32} {A : Nat → Nat → Int32} (hself102 : ∀ (z0 : Int32) (z1 : Int32) (I : Nat → Int32) (A : Nat → Nat → Int32) (o : Int32 × MS), self102 z0 z1 I A = some o → E1 I o.2.1) (hf : f_say_102s self102 x2 x3 I A = some o) : E1 I o.2.1 := by
  have hR : E1 I I := e1_0
  unfold f_say_102s at hf
  rcases m_ifE hf with ⟨-, hf⟩ | ⟨-, hf⟩
  ·
    obtain ⟨-, hf⟩ := m_chkE hf
    obtain ⟨A1, ev, hf⟩ := m_bndE hf
    clear ev
    obtain ⟨I2, ev, hf⟩ := m_bndE hf
    replace hR := e1_I hR ev (by first | exact Or.inl (by decide) | exact Or.inr rfl)
    clear ev
    obtain ⟨-, hf⟩ := m_chkE hf
    obtain ⟨v3, ev, hf⟩ := m_bndE hf
    clear ev
    cases hf
    exact hR
  ·
    obtain ⟨v4, ev, hf⟩ := m_bndE hf
    clear ev
    obtain ⟨v5, ev, hf⟩ := m_bndE hf
    clear ev
    obtain ⟨-, hf⟩ := m_chkE hf
    obtain ⟨v6, ev, hf⟩ := m_bndE hf
    clear ev
    obtain ⟨-, hf⟩ := m_chkE hf
    obtain ⟨A7, ev, hf⟩ := m_bndE hf
    clear ev
    obtain ⟨v8, ev, hf⟩ := m_bndE hf
    clear ev
    exact e1_t hR (hself102 _ _ _ _ _ hf)
theorem fe_say_102   (n : Nat) : ∀ (y0 : Int32) (y1 : Int32) (I : Nat → Int32) (A : Nat → Nat → Int32) (o : Int32 × MS), f_say_102  n y0 y1 I A = some o → E1 I o.2.1 := by
  induction n with
  | zero => intro y0 y1 I A o hf; cases hf
  | succ n ih => intro y0 y1 I A o hf; exact fe_say_102s  ih hf
theorem fe_say_74 {o : Int32 × MS} {t0 : Int32} {I : Nat → Int32} {A : Nat → Nat → Int32}  (hf : f_say_74 t0 I A = some o) : E1 I o.2.1 := by
  have hR : E1 I I := e1_0
  unfold f_say_74 at hf
  obtain ⟨I1, ev, hf⟩ := m_bndE hf
  replace hR := e1_I hR ev (by first | exact Or.inl (by decide) | exact Or.inr rfl)
  clear ev
  rcases m_ifE hf with ⟨-, hf⟩ | ⟨-, hf⟩
  ·
    obtain ⟨v2, ev, hf⟩ := m_bndE hf
    clear ev
    obtain ⟨v3, ev, hf⟩ := m_bndE hf
    clear ev
    exact e1_t hR (fe_say_102  mFuel _ _ _ _ _ hf)
  ·
    cases hf
    exact hR
theorem fe_say_57 {o : Int32 × MS} {self18 : Int32 → Int32 → (Nat → Int32) → (Nat → Nat → Int32) → Option (Int32 × MS)} {x2 : Int32} {t0 : Int32} {I : Nat → Int32} {A : Nat → Nat → Int32} (hself18 : ∀ (z0 : Int32) (z1 : Int32) (I : Nat → Int32) (A : Nat → Nat → Int32) (o : Int32 × MS), self18 z0 z1 I A = some o → E1 I o.2.1) (hf : f_say_57 self18 x2 t0 I A = some o) : E1 I o.2.1 := by
  have hR : E1 I I := e1_0
  unfold f_say_57 at hf
  obtain ⟨v1, ev, hf⟩ := m_bndE hf
  clear ev
  exact e1_t hR (hself18 _ _ _ _ _ hf)
theorem fe_say_56 {o : Int32 × MS} {self18 : Int32 → Int32 → (Nat → Int32) → (Nat → Nat → Int32) → Option (Int32 × MS)} {x2 : Int32} {I : Nat → Int32} {A : Nat → Nat → Int32} (hself18 : ∀ (z0 : Int32) (z1 : Int32) (I : Nat → Int32) (A : Nat → Nat → Int32) (o : Int32 × MS), self18 z0 z1 I A = some o → E1 I o.2.1) (hf : f_say_56 self18 x2 I A = some o) : E1 I o.2.1 := by
  have hR : E1 I I := e1_0
  unfold f_say_56 at hf
  exact e1_t hR (fe_say_57 hself18 hf)
theorem fe_say_18s {o : Int32 × MS} {self18 : Int32 → Int32 → (Nat → Int32) → (Nat → Nat → Int32) → Option (Int32 × MS)} {x1 : Int32} {x2 : Int32} {I : Nat → Int32} {A : Nat → Nat → Int32} (hself18 : ∀ (z0 : Int32) (z1 : Int32) (I : Nat → Int32) (A : Nat → Nat → Int32) (o : Int32 × MS), self18 z0 z1 I A = some o → E1 I o.2.1) (hf : f_say_18s self18 x1 x2 I A = some o) : E1 I o.2.1 := by
  have hR : E1 I I := e1_0
  unfold f_say_18s at hf
  rcases m_ifE hf with ⟨-, hf⟩ | ⟨-, hf⟩
  ·
    rcases m_ifE hf with ⟨-, hf⟩ | ⟨-, hf⟩
    ·
      exact e1_t hR (fe_say_74  hf)
    ·
      exact e1_t hR (fe_say_74  hf)
  ·
    rcases m_ifE hf with ⟨-, hf⟩ | ⟨-, hf⟩
    ·
      exact e1_t hR (fe_say_56 hself18 hf)
    ·
      obtain ⟨-, hf⟩ := m_chkE hf
      obtain ⟨v1, ev, hf⟩ := m_bndE hf
      clear ev
      rcases m_ifE hf with ⟨-, hf⟩ | ⟨-, hf⟩
      ·
        exact e1_t hR (fe_say_56 hself18 hf)
      ·
        obtain ⟨-, hf⟩ := m_chkE hf
        obtain ⟨v2, ev, hf⟩ := m_bndE hf
        clear ev
        rcases m_ifE hf with ⟨-, hf⟩ | ⟨-, hf⟩
        ·
          exact e1_t hR (fe_say_56 hself18 hf)
        ·
          exact e1_t hR (fe_say_57 hself18 hf)
theorem fe_say_18   (n : Nat) : ∀ (y0 : Int32) (y1 : Int32) (I : Nat → Int32) (A : Nat → Nat → Int32) (o : Int32 × MS), f_say_18  n y0 y1 I A = some o → E1 I o.2.1 := by
  induction n with
  | zero => intro y0 y1 I A o hf; cases hf
  | succ n ih => intro y0 y1 I A o hf; exact fe_say_18s  ih hf
theorem fe_say_15 {o : Int32 × MS} {t0 : Int32} {I : Nat → Int32} {A : Nat → Nat → Int32}  (hf : f_say_15 t0 I A = some o) : E1 I o.2.1 := by
  have hR : E1 I I := e1_0
  unfold f_say_15 at hf
  exact e1_t hR (fe_say_18  mFuel _ _ _ _ _ hf)
theorem fe_say_0 {o : Int32 × MS} {I : Nat → Int32} {A : Nat → Nat → Int32}  (hf : f_say_0 I A = some o) : E1 I o.2.1 := by
  have hR : E1 I I := e1_0
  unfold f_say_0 at hf
  rcases m_ifE hf with ⟨-, hf⟩ | ⟨-, hf⟩
  ·
    exact e1_t hR (fe_say_15  hf)
  ·
    exact e1_t hR (fe_say_15  hf)
theorem fe_say {o : Int32 × MS}  {I : Nat → Int32} {A : Nat → Nat → Int32} (hf : f_say  I A = some o) : E1 I o.2.1 := fe_say_0  hf
theorem fe_read {o : Int32 × MS} {I : Nat → Int32} {A : Nat → Nat → Int32} (hf : f_read I A = some o) : E1 I o.2.1 := by
  have hf : f_read_0 I A = some o := hf
  unfold f_read_0 at hf
  obtain ⟨I1, e1, hf⟩ := m_bndE hf
  obtain ⟨v2, -, hf⟩ := m_bndE hf
  obtain ⟨o3, h3, hf⟩ := m_clE hf
  obtain ⟨o4, h4, hf⟩ := m_clE hf
  obtain ⟨o5, h5, hf⟩ := m_clE hf
  have R1 : E1 I I1 := e1_I e1_0 e1 (by decide)
  have R5 : E1 I o5.2.1 := e1_t R1 (e1_t (e1_f (fw_clearGame h3) (by decide)) (e1_t (e1_f (fw_usual h4) (by decide)) (e1_f (fw_readGame h5) (by decide))))
  have last : ∀ {r : Int32} {J : Nat → Int32} {B : Nat → Nat → Int32}, f_read_47 r J B = some o → E1 J o.2.1 := by
    intro r J B hf
    unfold f_read_47 at hf
    obtain ⟨o1, h1, hf⟩ := m_clE hf
    cases hf
    have h9 := e1_f (fw_place h1) (by decide)
    exact h9
  rcases m_ifE hf with ⟨-, hf⟩ | ⟨-, hf⟩
  · obtain ⟨I6, e6, hf⟩ := m_bndE hf
    obtain ⟨I7, e7, hf⟩ := m_bndE hf
    obtain ⟨I8, e8, hf⟩ := m_bndE hf
    exact e1_t (e1_I (e1_I (e1_I R5 e6 (Or.inl (by decide))) e7 (Or.inl (by decide))) e8 (Or.inr rfl)) (last hf)
  · exact e1_t R5 (last hf)
theorem e1_le {I I' : Nat → Int32} (h : E1 I I') (h0 : 0 ≤ (I 1).toInt) : (I' 1).toInt ≤ (I 1).toInt + 8 := by
  have z : (0 : Int32).toInt = 0 := rfl
  rcases h with e | e
  · rw [e]; omega
  · rw [e]; omega
theorem fe_cut {o : Int32 × MS} {x1 : Int32} {I : Nat → Int32} {A : Nat → Nat → Int32} (h0 : 0 ≤ (I 1).toInt) (hf : f_cut x1 I A = some o) : (o.2.1 1).toInt ≤ (I 1).toInt + 8 := by
  have hf : f_cut_0 x1 I A = some o := hf
  unfold f_cut_0 at hf
  obtain ⟨I1, e1, hf⟩ := m_bndE hf
  have i1 : I1 1 = I 1 := by rw [e1]; exact upd_ne (by decide)
  have no : ∀ {o : Int32 × MS}, f_cut_17 I1 A = some o → (o.2.1 1).toInt ≤ (I 1).toInt + 8 := by
    intro o h
    unfold f_cut_17 at h
    obtain ⟨-, h⟩ := m_chkE h
    cases h
    show (I1 1).toInt ≤ _
    rw [i1]; omega
  rcases m_ifE hf with ⟨-, hf⟩ | ⟨-, hf⟩
  · exact no hf
  · rcases m_ifE hf with ⟨c, hf⟩ | ⟨-, hf⟩
    · obtain ⟨I2, e2, hf⟩ := m_bndE hf
      obtain ⟨-, hf⟩ := m_chkE hf
      cases hf
      have c := ti_leP (a := x1) (b := I1 1) c rfl rfl
      show (I2 1).toInt ≤ _
      rw [e2, upd_self]
      rw [i1] at c
      omega
    · exact no hf
theorem ty90_1 {x : Int64} {x3 : Int32} (h8 : x3.toInt ≤ 8) (n : Nat) : ∀ (x4 : Int32) (I : Nat → Int32) (A : Nat → Nat → Int32) (o : Int32 × MS), 0 ≤ x4.toInt → x4.toInt ≤ x3.toInt → f_type_90 n x x3 x4 I A = some o → o.1 = 1 ∧ (o.2.1 1).toInt ≤ (I 1).toInt + (x3.toInt - x4.toInt) := by
  induction n with
  | zero => intro x4 I A o _ _ hf; cases hf
  | succ n ih =>
    intro x4 I A o h1 h2 hf
    have hf : f_type_90s (f_type_90 n) x x3 x4 I A = some o := hf
    unfold f_type_90s at hf
    rcases m_ifE hf with ⟨c, hf⟩ | ⟨c, hf⟩
    · obtain ⟨-, hf⟩ := m_chkE hf
      cases hf
      refine ⟨rfl, ?_⟩
      show (I 1).toInt ≤ _
      omega
    · have c := ti_leN (a := x3) (b := x4) c rfl rfl
      obtain ⟨v1, -, hf⟩ := m_bndE hf
      obtain ⟨v2, -, hf⟩ := m_bndE hf
      obtain ⟨v3, -, hf⟩ := m_bndE hf
      obtain ⟨v4, -, hf⟩ := m_bndE hf
      obtain ⟨v5, -, hf⟩ := m_bndE hf
      obtain ⟨hi, hf⟩ := m_chkE hf
      obtain ⟨A6, -, hf⟩ := m_bndE hf
      obtain ⟨v7, e7, hf⟩ := m_bndE hf
      obtain ⟨I8, e8, hf⟩ := m_bndE hf
      obtain ⟨v9, e9, hf⟩ := m_bndE hf
      have hc : (I 1).toNatClampNeg = (I 1).toInt.toNat := rfl
      have g1 : 0 ≤ (I 1).toInt := by
        apply Classical.byContradiction
        intro h
        exact hi (Or.inl (Int32.lt_iff_toInt_lt.2 (by have z : (0 : Int32).toInt = 0 := rfl; omega)))
      have g2 : (I 1).toInt < 2000 := by
        apply Classical.byContradiction
        intro h
        exact hi (Or.inr (by omega))
      have t7 : v7.toInt = (I 1).toInt + 1 := ti_add e7 rfl (show (1 : Int32).toInt = 1 from rfl) (by omega) (by omega)
      have t9 : v9.toInt = x4.toInt + 1 := ti_add e9 rfl (show (1 : Int32).toInt = 1 from rfl) (by omega) (by omega)
      obtain ⟨a1, a2⟩ := ih v9 I8 A6 o (by omega) (by omega) hf
      have i8 : I8 1 = v7 := by rw [e8]; exact upd_self
      rw [i8] at a2
      exact ⟨a1, by omega⟩
theorem ty_ans {x : Int64} {v3 : Int32} {I : Nat → Int32} {A : Nat → Nat → Int32} {S : ZS} {o2 : Int32 × MS} {o : Int32 × ZS} (hT : ZT S) (k1 : zK S 1 = 11) (l0 : 0 ≤ (I 1).toInt) (l1 : (I 1).toInt ≤ 1992) (hw : ∀ w, zP S 0 1 = some w → (zI S 1 w).toInt ≤ 1992) (h2 : f_type x v3 I A = some o2) (ho : d_X11_type 1 x v3 S = some o) : o.1 = o2.1 ∧ (o2.2.1 1).toInt ≤ (I 1).toInt + 8 := by
  obtain ⟨w, p0, kw, cw⟩ := T_11_0 hT k1
  have lo := M_11_0 hT k1 p0
  have jw := J61_2 hT kw cw
  have lw := hw w p0
  have h2 : f_type_0 x v3 I A = some o2 := h2
  have ho : d_X11_type_0 1 x v3 S = some o := ho
  unfold f_type_0 at h2
  unfold d_X11_type_0 at ho
  rw [m_bndS] at h2
  have i1 : upd I 0 (0 : Int32) 1 = I 1 := upd_ne (by decide)
  have no2 : f_type_28 (upd I 0 (0 : Int32)) A = some o2 → o2.1 = 0 ∧ (o2.2.1 1).toInt ≤ (I 1).toInt + 8 := by
    intro h
    unfold f_type_28 at h
    obtain ⟨-, h⟩ := m_chkE h
    cases h
    refine ⟨rfl, ?_⟩
    show (upd I 0 (0 : Int32) 1).toInt ≤ _
    rw [i1]; omega
  have no1 : ∀ {S' : ZS}, d_X11_type_26 S' = some o → o.1 = 0 := by
    intro S' h
    unfold d_X11_type_26 at h
    obtain ⟨-, h⟩ := m_chkE h
    cases h
    rfl
  have c1 : (1 : Int32).toInt = 1 := rfl
  have c8 : (8 : Int32).toInt = 8 := rfl
  have c0 : (0 : Int32).toInt = 0 := rfl
  by_cases h1 : v3 < 1
  · rw [m_ifP h1] at h2 ho
    exact ⟨(no1 ho).trans (no2 h2).1.symm, (no2 h2).2⟩
  rw [m_ifN h1] at h2 ho
  by_cases h8 : 8 < v3
  · rw [m_ifP h8] at h2 ho
    exact ⟨(no1 ho).trans (no2 h2).1.symm, (no2 h2).2⟩
  rw [m_ifN h8] at h2 ho
  have g1 : ¬ v3.toInt < 1 := by rw [Int32.lt_iff_toInt_lt, c1] at h1; exact h1
  have g8 : ¬ 8 < v3.toInt := by rw [Int32.lt_iff_toInt_lt, c8] at h8; exact h8
  have h0 : ¬ v3 < 0 := by
    rw [Int32.lt_iff_toInt_lt, c0]
    omega
  have hs : f_X6_size w S = some (zI S 1 w, S) := by
    obtain ⟨r2, e2, q2⟩ := roz (t_f_X6_size (x0 := w) hT kw)
    dsimp only at q2
    rw [e2, q2.2]
  have c2k : (2000 : Int32).toInt = 2000 := rfl
  have t1 : (upd I 0 (0 : Int32) 1 + v3).toInt = (I 1).toInt + v3.toInt := ti_add rfl (by rw [i1]) rfl (by omega) (by omega)
  have t2 : (zI S 1 w + v3).toInt = (zI S 1 w).toInt + v3.toInt := ti_add rfl rfl rfl (by omega) (by omega)
  have q1 : upd I 0 (0 : Int32) 1 + v3 ≤ 2000 := Int32.le_iff_toInt_le.2 (by omega)
  have q2 : zI S 1 w + v3 ≤ 2000 := Int32.le_iff_toInt_le.2 (by omega)
  rw [m_bndS, m_ifP q1] at h2
  rw [m_chkP k1, p0, m_calS, m_chkP kw, hs, m_calS, m_chkP ⟨rfl, rfl⟩, m_bndS, m_ifP q2] at ho
  have h5 : v3.toNatClampNeg = v3.toInt.toNat := rfl
  have e3 := i_of h0
  generalize hL0 : v3.toNatClampNeg = L at e3 h5
  have hL : L ≤ 8 := by omega
  rw [e3] at h2 ho
  have n3 : (nI L).toInt ≤ 8 := by rw [← e3]; omega
  have n0 : 0 ≤ (nI L).toInt := by rw [← e3]; omega
  rcases ty_33 (I := upd I 0 0) (A := A) (S := S) (x := x) hL mFuel 0 (by omega) (by show L < 0 + 200000; omega) with ⟨ha, hb⟩ | ⟨ha, hb⟩
  · obtain ⟨a1, a2⟩ := ty90_1 (x := x) n3 mFuel 0 (upd I 0 0) A o2 (by omega) (by omega) (ha.symm.trans h2)
    have b1 := (ok_of (t_d_X11_type_77 (x0 := 1) (x1 := x) n3 (by omega : rc w = 2) mFuel 0 S hT k1 p0 kw (by omega) (by omega) (by omega) (by show (nI L).toInt - (0 : Int32).toInt < ((200000 : Nat) : Int); omega)) (hb.symm.trans ho)).2.2.2
    rw [i1] at a2
    exact ⟨b1.trans a1.symm, by omega⟩
  · have a1 : some ((0 : Int32), (upd I 0 (0 : Int32), A)) = some o2 := ha.symm.trans h2
    have b1 : some ((0 : Int32), S) = some o := hb.symm.trans ho
    cases a1
    cases b1
    refine ⟨rfl, ?_⟩
    show (upd I 0 (0 : Int32) 1).toInt ≤ _
    rw [i1]; omega
