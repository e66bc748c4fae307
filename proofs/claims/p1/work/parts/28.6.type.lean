theorem and255 (y : Int64) : ∃ r : Nat, r < 256 ∧ y &&& (255 : Int64) = Int64.ofNat r := by
  refine ⟨y.toBitVec.toNat % 256, Nat.mod_lt _ (by decide), ?_⟩
  apply Int64.toBitVec_inj.mp
  apply BitVec.eq_of_toNat_eq
  show (y.toBitVec &&& 255#64).toNat = (BitVec.ofNat 64 (y.toBitVec.toNat % 256)).toNat
  rw [BitVec.toNat_and]
  show y.toBitVec.toNat &&& (2 ^ 8 - 1) = _
  rw [Nat.and_two_pow_sub_one_eq_mod, BitVec.toNat_ofNat]
  exact (Nat.mod_eq_of_lt (by omega)).symm
theorem b255 : ∀ i, i < 64 → 8 ≤ i → (255#64).getLsbD i = false := by decide
theorem sh_bv (v : BitVec 64) {s : Nat} (hs : s ≤ 56) : (v.sshiftRight s) &&& 255#64 = (v >>> s) &&& 255#64 := by
  apply BitVec.eq_of_getLsbD_eq
  intro i hi
  rw [BitVec.getLsbD_and, BitVec.getLsbD_and, BitVec.getLsbD_sshiftRight, BitVec.getLsbD_ushiftRight]
  by_cases h8 : i < 8
  · have h1 : s + i < 64 := by omega
    have h2 : ¬ 64 ≤ i := by omega
    simp [h1, h2]
  · rw [b255 i hi (by omega), Bool.and_false, Bool.and_false]
theorem sh_eq (x : Int64) {k : Nat} (hk : k < 8) : (x >>> (((8 : Int32) * nI k).toInt64 &&& 63)) &&& (255 : Int64) = (((x).toUInt64 >>> (((8 : Int32) * nI k).toInt64.toUInt64 &&& Int64.toUInt64 63)).toInt64) &&& (255 : Int64) := by
  apply Int64.toBitVec_inj.mp
  match k, hk with
  | 0, _ => exact sh_bv x.toBitVec (s := 0) (by omega)
  | 1, _ => exact sh_bv x.toBitVec (s := 8) (by omega)
  | 2, _ => exact sh_bv x.toBitVec (s := 16) (by omega)
  | 3, _ => exact sh_bv x.toBitVec (s := 24) (by omega)
  | 4, _ => exact sh_bv x.toBitVec (s := 32) (by omega)
  | 5, _ => exact sh_bv x.toBitVec (s := 40) (by omega)
  | 6, _ => exact sh_bv x.toBitVec (s := 48) (by omega)
  | 7, _ => exact sh_bv x.toBitVec (s := 56) (by omega)
theorem ch_all : ∀ r : Nat, r < 256 → (((Int64.ofNat r).toInt32).toUInt32 % 65536).toInt32 = nI r ∧ vp_nar .char (nI r) = nI r ∧ ((lg_cmp (Int64.ofNat r) 10 = 0) ↔ (nI r = 10)) ∧ ((lg_cmp (Int64.ofNat r) 32 < 0) ↔ (nI r < 32)) ∧ ((lg_cmp (Int64.ofNat r) 126 ≤ 0) ↔ (nI r ≤ 126)) := by decide +kernel
theorem m_cal2S {α β : Type} {v : α} {S : ZS} {k : α → ZS → Option β} : m_cal2 (some (v, S)) k = k v S := rfl
section TY
variable {I : Nat → Int32} {A : Nat → Nat → Int32} {S : ZS} {x : Int64} {L : Nat}
theorem byte_of (S : ZS) {k r : Nat} (hk : k < 8) (hr : r < 256) (e : (x >>> (((8 : Int32) * nI k).toInt64 &&& 63)) &&& (255 : Int64) = Int64.ofNat r) : f_X11_byteOf x (nI k) S = some (nI r, S) := by
  unfold f_X11_byteOf f_X11_byteOf_0
  rw [m_bndS, m_bndS, m_bndS, ← sh_eq x hk, e, m_bndS, m_bndS, (ch_all r hr).1, m_chkP (ch_all r hr).2.1]
theorem ty_33 (hL : L ≤ 8) (n : Nat) : ∀ j : Nat, j ≤ L → L < j + n → (f_type_33 n x (nI L) (nI j) I A = f_type_90 mFuel x (nI L) 0 I A ∧ d_X11_type_31 n 1 x (nI L) (nI j) S = d_X11_type_77 mFuel 1 x (nI L) 0 S) ∨ (f_type_33 n x (nI L) (nI j) I A = some (0, (I, A)) ∧ d_X11_type_31 n 1 x (nI L) (nI j) S = some (0, S)) := by
  induction n with
  | zero => intro j h1 h2; omega
  | succ n ih =>
    intro j h1 h2
    show (f_type_33s (f_type_33 n) x (nI L) (nI j) I A = f_type_90 mFuel x (nI L) 0 I A ∧ d_X11_type_31s (d_X11_type_31 n) 1 x (nI L) (nI j) S = d_X11_type_77 mFuel 1 x (nI L) 0 S) ∨ (f_type_33s (f_type_33 n) x (nI L) (nI j) I A = some (0, (I, A)) ∧ d_X11_type_31s (d_X11_type_31 n) 1 x (nI L) (nI j) S = some (0, S))
    unfold f_type_33s d_X11_type_31s
    by_cases hc : nI L ≤ nI j
    · rw [m_ifP hc, m_ifP hc]
      exact Or.inl ⟨rfl, rfl⟩
    have hj : j < L := Classical.byContradiction (fun h => hc (nI_le (by omega) (by omega)))
    obtain ⟨r, hr, er⟩ := and255 (x >>> (((8 : Int32) * nI j).toInt64 &&& 63))
    obtain ⟨-, -, c1, c2, c3⟩ := ch_all r hr
    rw [m_ifN hc, m_ifN hc, m_bndS, m_bndS, m_bndS, er, m_bndS, byte_of S (by omega : j < 8) hr er, m_calS, m_chkP ⟨rfl, rfl⟩]
    have go : (f_type_81 (f_type_33 n) x (nI L) (nI j) I A = f_type_90 mFuel x (nI L) 0 I A ∧ d_X11_type_68 (d_X11_type_31 n) 1 x (nI L) (nI j) S = d_X11_type_77 mFuel 1 x (nI L) 0 S) ∨ (f_type_81 (f_type_33 n) x (nI L) (nI j) I A = some (0, (I, A)) ∧ d_X11_type_68 (d_X11_type_31 n) 1 x (nI L) (nI j) S = some (0, S)) := by
      unfold f_type_81 d_X11_type_68
      rw [m_bndS, m_bndS, nI_1]
      exact ih (j + 1) (by omega) (by omega)
    by_cases d1 : nI r = 10
    · rw [m_ifP (c1.mpr d1), m_ifP d1]
      exact go
    rw [m_ifN (fun h => d1 (c1.mp h)), m_ifN d1, m_bndS]
    by_cases d2 : nI r < 32
    · rw [m_ifP (c2.mpr d2), m_ifP d2]
      exact Or.inr ⟨rfl, rfl⟩
    rw [m_ifN (fun h => d2 (c2.mp h)), m_ifN d2, m_bndS]
    by_cases d3 : nI r ≤ 126
    · rw [m_ifP (c3.mpr d3), m_ifP d3]
      exact go
    · rw [m_ifN (fun h => d3 (c3.mp h)), m_ifN d3]
      exact Or.inr ⟨rfl, rfl⟩
theorem ty_90 (hL : L ≤ 8) (n : Nat) : ∀ (j : Nat) (I : Nat → Int32) (A : Nat → Nat → Int32), j ≤ L → L < j + n → I 1 = nI j → ∃ o : Int32 × MS, f_type_90 n x (nI L) (nI j) I A = some o ∧ o.1 = 1 := by
  induction n with
  | zero => intro j I A h1 h2; omega
  | succ n ih =>
    intro j I A h1 h2 i1
    show ∃ o : Int32 × MS, f_type_90s (f_type_90 n) x (nI L) (nI j) I A = some o ∧ o.1 = 1
    unfold f_type_90s
    by_cases hc : nI L ≤ nI j
    · rw [m_ifP hc]
      exact ⟨_, rfl, rfl⟩
    have hj : j < L := Classical.byContradiction (fun h => hc (nI_le (by omega) (by omega)))
    rw [m_ifN hc, m_bndS, m_bndS, m_bndS, m_bndS, m_bndS, m_chkP (by rw [i1]; exact nI_in (by omega) (by decide)), m_bndS, m_bndS, m_bndS, m_bndS, nI_1]
    refine ih (j + 1) _ _ (by omega) (by omega) ?_
    show upd I 1 (I 1 + 1) 1 = _
    rw [upd_self, i1, nI_1]
/-- the text's row while it is written: j characters, its array made with the first -/
def TR (T U j : Nat) (S : ZS) : Prop := zK S 1 = 11 ∧ zP S 0 1 = some 2 ∧ zK S 2 = 6 ∧ zI S 1 2 = nI j ∧ ((j = 0 ∧ zP S 0 2 = some 0 ∧ zt S = T ∧ zu S = U) ∨ (zP S 0 2 = some T ∧ zK S T = 13 ∧ zN S T = 8 ∧ zt S = T + 1 ∧ zu S = U + 8))
theorem put_43 {T U j : Nat} {S : ZS} {v : Int32} (hT : 3 ≤ T) (hj : j < 8) (h1 : zK S 1 = 11) (h2 : zP S 0 1 = some 2) (h3 : zK S 2 = 6) (h4 : zI S 1 2 = nI j) (h5 : zP S 0 2 = some T) (h6 : zK S T = 13) (h7 : zN S T = 8) (h8 : zt S = T + 1) (h9 : zu S = U + 8) : ∃ S1 : ZS, d_X6_put_43 2 v S = some (0, S1) ∧ TR T U (j + 1) S1 := by
  unfold d_X6_put_43
  have hin : ¬ ((zI S 1 2) < 0 ∨ zN S T ≤ ((zI S 1 2)).toNatClampNeg) := by
    rw [h4, h7]
    exact nI_in hj (by decide)
  rw [m_chkP h3, h5, m_calS, m_chkP h3, m_chkP h6, m_chkP hin, m_bndS]
  have e1 : ∀ (i : Nat) (w : Int32), zK (zsA S T i w) 2 = 6 := fun _ _ => h3
  rw [m_chkP (e1 _ _), m_bndS, m_chkP (e1 _ _), m_bndS]
  refine ⟨_, rfl, h1, h2, h3, ?_, Or.inr ⟨h5, h6, h7, h8, h9⟩⟩
  show va_up (zI S) 1 (va_up (zI S 1) 2 (zI S 1 2 + 1)) 1 2 = nI (j + 1)
  rw [va_up_self, va_up_self, h4, nI_1]
theorem put_t {T U j : Nat} {S : ZS} {v : Int32} (hT : 3 ≤ T) (hj : j < 8) (hS : TR T U j S) : ∃ S1 : ZS, d_X6_put 2 v S = some (0, S1) ∧ TR T U (j + 1) S1 := by
  obtain ⟨h1, h2, h3, h4, h5⟩ := hS
  unfold d_X6_put d_X6_put_0
  rw [m_chkP h3, m_chkP h3]
  rcases h5 with ⟨hj0, h5, h8, h9⟩ | ⟨h5, h6, h7, h8, h9⟩
  · subst hj0
    have h4' : zI S 1 2 = 0 := h4
    rw [h5, m_calS, m_chkP (Or.inl rfl), m_bndS, h4', if_pos rfl, m_ifN (by decide), m_chkP h3, m_bndS, m_bndS, m_chkP (by decide), m_bndS, m_bndS, h8]
    have hne : (2 : Nat) ≠ T := by omega
    have hne1 : (1 : Nat) ≠ T := by omega
    have k6 : zK (zsNewA S T 13 ((2 : Int32) * 0 + 8).toNatClampNeg) 2 = 6 := (va_up_ne _ _ hne).trans h3
    have kT : zK (zsNewA S T 13 ((2 : Int32) * 0 + 8).toNatClampNeg) T = 13 := va_up_self _ _ _
    have p6 : zP (zsNewA S T 13 ((2 : Int32) * 0 + 8).toNatClampNeg) 0 2 = some 0 := h5
    have kD : ∀ n, zK (zsD (zsNewA S T 13 ((2 : Int32) * 0 + 8).toNatClampNeg) 0 T 0 0 n) 2 = 6 := fun _ => k6
    rw [m_chkP k6, p6, m_calS, m_chkP k6, m_chkP kT, m_chkP (Or.inl ⟨rfl, h4'⟩), m_bndS, m_chkP (kD _), m_bndS]
    refine put_43 hT hj ?_ ?_ k6 h4 ?_ kT ?_ ?_ ?_
    · exact (va_up_ne _ _ hne1).trans h1
    · show va_up (zP S) 0 (va_up (zP S 0) 2 (some T)) 0 1 = some 2
      rw [va_up_self, va_up_ne _ _ (by decide)]
      exact h2
    · show va_up (zP S) 0 (va_up (zP S 0) 2 (some T)) 0 2 = some T
      rw [va_up_self, va_up_self]
    · exact va_up_self _ _ _
    · show zt S + 1 = T + 1
      rw [h8]
    · show zu S + 8 = U + 8
      rw [h9]
  · have hT0 : T ≠ 0 := by omega
    have hlt : nI j < Int32.ofNat 8 := nI_lt (b := 8) hj (by decide)
    rw [h5, m_calS, m_chkP (Or.inr h6), m_bndS, if_neg hT0, h7, h4, m_ifP hlt]
    exact put_43 hT hj h1 h2 h3 h4 h5 h6 h7 h8 h9
theorem ty_77 {T U : Nat} (hT : 3 ≤ T) (hL : L ≤ 8) (n : Nat) : ∀ (j : Nat) (S : ZS), j ≤ L → L < j + n → TR T U j S → ∃ o : Int32 × ZS, d_X11_type_77 n 1 x (nI L) (nI j) S = some o ∧ o.1 = 1 ∧ zt o.2 ≤ T + 1 ∧ zu o.2 ≤ U + 8 := by
  induction n with
  | zero => intro j S h1 h2; omega
  | succ n ih =>
    intro j S h1 h2 hS
    show ∃ o : Int32 × ZS, d_X11_type_77s (d_X11_type_77 n) 1 x (nI L) (nI j) S = some o ∧ o.1 = 1 ∧ zt o.2 ≤ T + 1 ∧ zu o.2 ≤ U + 8
    unfold d_X11_type_77s
    by_cases hc : nI L ≤ nI j
    · rw [m_ifP hc]
      refine ⟨_, rfl, rfl, ?_⟩
      rcases hS.2.2.2.2 with ⟨-, -, e1, e2⟩ | ⟨-, -, -, e1, e2⟩
      · show zt S ≤ T + 1 ∧ zu S ≤ U + 8
        omega
      · show zt S ≤ T + 1 ∧ zu S ≤ U + 8
        omega
    have hj : j < L := Classical.byContradiction (fun h => hc (nI_le (by omega) (by omega)))
    obtain ⟨r, hr, er⟩ := and255 (x >>> (((8 : Int32) * nI j).toInt64 &&& 63))
    obtain ⟨S1, hp, hS1⟩ := put_t (v := nI r) hT (by omega : j < 8) hS
    rw [m_ifN hc, m_chkP hS.1, hS.2.1, m_calS, byte_of S (by omega : j < 8) hr er, m_calS, m_chkP ⟨rfl, rfl⟩, m_chkP hS.2.2.1, hp]
    rw [m_cal2S, m_bndS, nI_1]
    exact ih (j + 1) S1 (by omega) (by omega) hS1
theorem sy_type {v3 : Int32} (hF : FR I A) (hC : FC S) (hD : zP S 0 2 = some 0 ∧ 3 ≤ zt S) : ckG S (f_type x v3 I A) (d_X11_type 1 x v3 S) = true := by
  obtain ⟨i1, i3, i5, i6, i33, a7, a12, a14, a18⟩ := hF
  obtain ⟨k1, p0, p1, p2, p7, p9, i8, k2, i12, k3, i13, k4, k99, i99, j99, q99, k102, i102, q102, k103, i103, k107⟩ := id hC
  have hend : ∀ {a : Option (Int32 × MS)} {d : Option (Int32 × ZS)} {o2 : Int32 × MS} {o : Int32 × ZS}, a = some o2 → d = some o → o.1 = o2.1 → zt o.2 ≤ zt S + 1 → zu o.2 ≤ zu S + 8 → ckG S a d = true := by
    intro a d o2 o ha hd h1 h2 h3
    subst ha hd
    have h2' : zt o.2 ≤ zt S + 10000 := by omega
    have h3' : zu o.2 ≤ zu S + 140000 := by omega
    show (decide (o.1 = o2.1) && (decide (zt o.2 ≤ zt S + 10000) && decide (zu o.2 ≤ zu S + 140000))) = true
    rw [decide_eq_true h1, decide_eq_true h2', decide_eq_true h3']
    rfl
  have hI : upd I 0 (0 : Int32) 1 = 0 := i1
  have hs : f_X6_size 2 S = some (0, S) := by
    unfold f_X6_size f_X6_size_0
    rw [m_chkP k2, i12]
  unfold f_type f_type_0 d_X11_type d_X11_type_0
  rw [m_bndS]
  by_cases h1 : v3 < 1
  · rw [m_ifP h1, m_ifP h1]
    exact hend (o2 := (0, (upd I 0 0, A))) (o := (0, S)) rfl rfl rfl (by show zt S ≤ zt S + 1; omega) (by show zu S ≤ zu S + 8; omega)
  rw [m_ifN h1, m_ifN h1]
  by_cases h2 : 8 < v3
  · rw [m_ifP h2, m_ifP h2]
    exact hend (o2 := (0, (upd I 0 0, A))) (o := (0, S)) rfl rfl rfl (by show zt S ≤ zt S + 1; omega) (by show zu S ≤ zu S + 8; omega)
  have c1 : (1 : Int32).toInt = 1 := rfl
  have c8 : (8 : Int32).toInt = 8 := rfl
  have c0 : (0 : Int32).toInt = 0 := rfl
  have c2 : (2000 : Int32).toInt = 2000 := rfl
  have g1 : ¬ v3.toInt < 1 := by rw [Int32.lt_iff_toInt_lt, c1] at h1; exact h1
  have g2 : ¬ 8 < v3.toInt := by rw [Int32.lt_iff_toInt_lt, c8] at h2; exact h2
  have h0 : ¬ v3 < 0 := by
    rw [Int32.lt_iff_toInt_lt, c0]
    omega
  have h3 : v3 ≤ 2000 := by
    rw [Int32.le_iff_toInt_le, c2]
    omega
  have hz : (0 : Int32) + v3 = v3 := Int32.zero_add v3
  rw [m_ifN h2, m_ifN h2, m_bndS, hI, hz, m_ifP h3, m_chkP k1, p0, m_calS, m_chkP k2, hs, m_calS, m_chkP ⟨rfl, rfl⟩, m_bndS, hz, m_ifP h3]
  have h5 : v3.toNatClampNeg = v3.toInt.toNat := rfl
  have e3 := i_of h0
  generalize v3.toNatClampNeg = L at e3 h5
  subst e3
  have hL : L ≤ 8 := by omega
  rcases ty_33 (I := upd I 0 0) (A := A) (S := S) (x := x) hL mFuel 0 (by omega) (by show L < 0 + 200000; omega) with ⟨ha, hb⟩ | ⟨ha, hb⟩
  · obtain ⟨o2, ho2, e2⟩ := ty_90 (x := x) hL mFuel 0 (upd I 0 0) A (by omega) (by show L < 0 + 200000; omega) hI
    obtain ⟨o, ho, e1, e4, e5⟩ := ty_77 (x := x) (T := zt S) (U := zu S) hD.2 hL mFuel 0 S (by omega) (by show L < 0 + 200000; omega) ⟨k1, p0, k2, i12, Or.inl ⟨rfl, hD.1, rfl, rfl⟩⟩
    exact hend (ha.trans ho2) (hb.trans ho) (e1.trans e2.symm) e4 e5
  · exact hend (o2 := (0, (upd I 0 0, A))) (o := (0, S)) ha hb rfl (by show zt S ≤ zt S + 1; omega) (by show zu S ≤ zu S + 8; omega)
end TY
