def zSb : List (List Int32) := [[70, 69, 78], [80, 78, 66, 82, 81, 75, 32, 32, 112, 110, 98, 114, 113, 107], [75, 81, 107, 113], [49, 45, 48], [48, 45, 49], [49, 47, 50, 45, 49, 47, 50], [42], [79, 45, 79], [79, 45, 79, 45, 79], [80, 78, 66, 82, 81, 75], [82, 101, 115, 117, 108, 116], [32, 34], [34, 93, 10], [46], [46, 46, 46], [110, 111, 116, 32, 97, 32, 108, 101, 103, 97, 108, 32, 109, 111, 118, 101], [110, 111, 32, 115, 117, 99, 104, 32, 110, 111, 100, 101], [110, 111, 32, 115, 117, 99, 104, 32, 112, 97, 114, 116, 32, 111, 102, 32, 97, 32, 110, 111, 100, 101], [110, 111, 32, 115, 117, 99, 104, 32, 110, 111, 100, 101, 32, 111, 114, 32, 109, 97, 114, 107], [110, 111, 32, 115, 117, 99, 104, 32, 110, 111, 100, 101, 32, 111, 114, 32, 99, 104, 97, 114, 97, 99, 116, 101, 114], [110, 111, 32, 115, 117, 99, 104, 32, 115, 113, 117, 97, 114, 101], [110, 111, 32, 114, 111, 111, 109, 32, 102, 111, 114, 32, 97, 32, 110, 101, 119, 32, 110, 111, 100, 101], [110, 111, 116, 32, 97, 32, 109, 97, 114, 107], [110, 111, 32, 114, 111, 111, 109, 32, 102, 111, 114, 32, 97, 32, 109, 97, 114, 107], [110, 111, 116, 32, 97, 32, 114, 101, 109, 97, 114, 107], [110, 111, 100, 101, 32, 48, 32, 104, 97, 115, 32, 110, 111, 32, 111, 116, 104, 101, 114, 115, 32, 98, 101, 115, 105, 100, 101, 32, 105, 116], [97, 32, 110, 111, 100, 101, 32, 119, 111, 117, 108, 100, 32, 98, 101, 32, 116, 111, 111, 32, 100, 101, 101, 112], [110, 111, 116, 32, 97, 32, 114, 101, 115, 117, 108, 116], [110, 111, 32, 115, 117, 99, 104, 32, 116, 97, 103, 32, 111, 114, 32, 99, 104, 97, 114, 97, 99, 116, 101, 114]]
def zSl : List Nat := [3, 14, 4, 3, 3, 7, 1, 3, 5, 6, 6, 2, 3, 1, 3, 16, 12, 22, 20, 25, 14, 22, 10, 18, 12, 30, 24, 12, 24]
def zSn : Nat := 29
def zFR : List Int32 := [4, 2, 3, 5, 6, 3, 2, 4]
abbrev ZS : Type := List Nat × (Nat → Nat) × (Nat → Nat → Int32) × (Nat → Nat → Option Nat) × (Nat → Nat) × (Nat → Nat → Int32) × (Nat → Nat → Option Nat) × Nat × Nat × Nat
abbrev zL (S : ZS) : List Nat := S.1
abbrev zK (S : ZS) : Nat → Nat := S.2.1
abbrev zI (S : ZS) : Nat → Nat → Int32 := S.2.2.1
abbrev zP (S : ZS) : Nat → Nat → Option Nat := S.2.2.2.1
abbrev zN (S : ZS) : Nat → Nat := S.2.2.2.2.1
abbrev zA (S : ZS) : Nat → Nat → Int32 := S.2.2.2.2.2.1
abbrev zB (S : ZS) : Nat → Nat → Option Nat := S.2.2.2.2.2.2.1
abbrev zc (S : ZS) : Nat := S.2.2.2.2.2.2.2.1
abbrev zt (S : ZS) : Nat := S.2.2.2.2.2.2.2.2.1
abbrev zu (S : ZS) : Nat := S.2.2.2.2.2.2.2.2.2
def zsI (S : ZS) (j a : Nat) (v : Int32) : ZS := (zL S, zK S, va_up (zI S) j (va_up (zI S j) a v), zP S, zN S, zA S, zB S, zc S, zt S, zu S)
def zsP (S : ZS) (j a : Nat) (v : Option Nat) : ZS := (zL S, zK S, zI S, va_up (zP S) j (va_up (zP S j) a v), zN S, zA S, zB S, zc S, zt S, zu S)
def zsA (S : ZS) (a i : Nat) (v : Int32) : ZS := (zL S, zK S, zI S, zP S, zN S, va_up (zA S) a (upd (zA S a) i v), zB S, zc S, zt S, zu S)
def zsC (S : ZS) (b a sp dp n : Nat) : ZS := (zL S, zK S, zI S, zP S, zN S, va_up (zA S) a (va_cpy (zA S b) (zA S a) sp dp n), zB S, zc S, zt S, zu S)
def zsD (S : ZS) (b a sp dp n : Nat) : ZS := (zL S, zK S, zI S, zP S, zN S, va_up (zA S) a (if b = 0 then zA S a else va_cpy (zA S b) (zA S a) sp dp n), zB S, zc S, zt S, zu S)
def zsNewA (S : ZS) (q k n : Nat) : ZS := (zL S ++ [q], va_up (zK S) q k, zI S, zP S, va_up (zN S) q n, va_up (zA S) q (fun _ => 0), va_up (zB S) q (fun _ => none), zc S, zt S + 1, zu S + n)
def zsNewO (S : ZS) (q k n : Nat) : ZS := (zL S ++ [q], va_up (zK S) q k, fun j => va_up (zI S j) q 0, fun j => va_up (zP S j) q none, zN S, zA S, zB S, zc S, zt S + 1, zu S + n)
def zsB (S : ZS) (a i : Nat) (v : Option Nat) : ZS := (zL S, zK S, zI S, zP S, zN S, zA S, va_up (zB S) a (va_up (zB S a) i v), zc S, zt S, zu S)
def m_opt {β : Type} (x : Option Nat) (a : Option β) (k : Nat → Option β) : Option β := match x with
  | none => a
  | some b => k b
def m_cal2 {α β : Type} (o : Option (α × ZS)) (k : α → ZS → Option β) : Option β := match o with
  | none => none
  | some z => k z.1 z.2
def zsQ (S : ZS) : ZS := (zL S, zK S, zI S, zP S, zN S, zA S, zB S, zc S, zt S + 1, zu S + 6)
def f_X0_wipe_2s (self2 : Nat → Int32 → ZS → Option (Int32 × ZS)) (x0 : Nat) (x1 : Int32) (S : ZS) : Option (Int32 × ZS) :=
  m_if ((64 : Int32) ≤ x1) (
  m_chk (zK S x0 = 0) (
  m_bnd (zsI S 3 x0 (0 : Int32)) (fun S1 =>
  m_chk (zK S1 x0 = 0) (
  m_bnd (zsI S1 4 x0 (0 : Int32)) (fun S2 =>
  m_chk (zK S2 x0 = 0) (
  m_bnd (zsI S2 5 x0 (-1 : Int32)) (fun S3 =>
  m_chk (zK S3 x0 = 0) (
  m_bnd (zsI S3 6 x0 (1 : Int32)) (fun S4 =>
  some (0, S4)))))))))
  ) (
  m_chk (zK S x0 = 0) (
  m_cal (zP S 0 x0) (fun b5 =>
  m_chk (zK S b5 = 14) (
  m_chk (¬ (x1 < 0 ∨ zN S b5 ≤ (x1).toNatClampNeg)) (
  m_bnd (zsA S b5 (x1).toNatClampNeg (0 : Int32)) (fun S6 =>
  m_bnd (x1 + (1 : Int32)) (fun v7 =>
  self2 x0 v7 S6))))))
  )
def f_X0_wipe_2 : Nat → Nat → Int32 → ZS → Option (Int32 × ZS)
  | 0 => fun _ _ _ => none
  | n + 1 => f_X0_wipe_2s (f_X0_wipe_2 n)
def f_X0_wipe_0 (x0 : Nat) (S : ZS) : Option (Int32 × ZS) :=
  f_X0_wipe_2 mFuel x0 (0 : Int32) S
def f_X0_wipe (x0 : Nat) (S : ZS) : Option (Int32 × ZS) := f_X0_wipe_0 x0 S
def f_X0_put_32 (S : ZS) : Option (Int32 × ZS) :=
  some (0, S)
def f_X0_put_0 (x0 : Nat) (x1 : Int32) (x2 : Int32) (S : ZS) : Option (Int32 × ZS) :=
  m_chk (zK S x0 = 0) (
  m_cal (zP S 0 x0) (fun b1 =>
  m_chk (zK S b1 = 14) (
  m_chk (¬ (x1 < 0 ∨ zN S b1 ≤ (x1).toNatClampNeg)) (
  m_bnd (zsA S b1 (x1).toNatClampNeg x2) (fun S2 =>
  m_if (x2 = (6 : Int32)) (
  m_chk (zK S2 x0 = 0) (
  m_bnd (zsI S2 1 x0 x1) (fun S4 =>
  f_X0_put_32  S4))
  ) (
  m_if (x2 = (14 : Int32)) (
  m_chk (zK S2 x0 = 0) (
  m_bnd (zsI S2 2 x0 x1) (fun S3 =>
  f_X0_put_32  S3))
  ) (
  f_X0_put_32  S2
  )
  ))))))
def f_X0_put (x0 : Nat) (x1 : Int32) (x2 : Int32) (S : ZS) : Option (Int32 × ZS) := f_X0_put_0 x0 x1 x2 S
def f_X0_setUp_6s (self6 : Nat → Int32 → ZS → Option (Int32 × ZS)) (x0 : Nat) (x1 : Int32) (S : ZS) : Option (Int32 × ZS) :=
  m_if ((8 : Int32) ≤ x1) (
  m_chk (zK S x0 = 0) (
  m_bnd (zsI S 4 x0 (15 : Int32)) (fun S1 =>
  some (0, S1)))
  ) (
  m_chk (¬ (x1 < 0 ∨ 8 ≤ (x1).toNatClampNeg)) (
  m_bnd (zFR.getD (x1).toNatClampNeg 0) (fun v2 =>
  m_chk (zK S x0 = 0) (
  m_cal (f_X0_put x0 x1 v2 S) (fun o3 =>
  m_bnd (x1 + (8 : Int32)) (fun v4 =>
  m_chk (zK o3.2 x0 = 0) (
  m_cal (f_X0_put x0 v4 (1 : Int32) o3.2) (fun o5 =>
  m_bnd (x1 + (48 : Int32)) (fun v6 =>
  m_chk (zK o5.2 x0 = 0) (
  m_cal (f_X0_put x0 v6 (9 : Int32) o5.2) (fun o7 =>
  m_bnd (x1 + (56 : Int32)) (fun v8 =>
  m_chk (¬ (x1 < 0 ∨ 8 ≤ (x1).toNatClampNeg)) (
  m_bnd (zFR.getD (x1).toNatClampNeg 0) (fun v9 =>
  m_bnd (v9 + (8 : Int32)) (fun v10 =>
  m_chk (zK o7.2 x0 = 0) (
  m_cal (f_X0_put x0 v8 v10 o7.2) (fun o11 =>
  m_bnd (x1 + (1 : Int32)) (fun v12 =>
  self6 x0 v12 o11.2)))))))))))))))))
  )
def f_X0_setUp_6 : Nat → Nat → Int32 → ZS → Option (Int32 × ZS)
  | 0 => fun _ _ _ => none
  | n + 1 => f_X0_setUp_6s (f_X0_setUp_6 n)
def f_X0_setUp_0 (x0 : Nat) (S : ZS) : Option (Int32 × ZS) :=
  m_chk (zK S x0 = 0) (
  m_cal (f_X0_wipe x0 S) (fun o1 =>
  f_X0_setUp_6 mFuel x0 (0 : Int32) o1.2))
def f_X0_setUp (x0 : Nat) (S : ZS) : Option (Int32 × ZS) := f_X0_setUp_0 x0 S
def f_X0_copyFrom_0 (x0 : Nat) (x1 : Nat) (S : ZS) : Option (Int32 × ZS) :=
  m_chk (zK S x1 = 0) (
  m_cal (zP S 0 x1) (fun b1 =>
  m_chk (zK S x0 = 0) (
  m_cal (zP S 0 x0) (fun b2 =>
  m_chk (zK S b1 = 14) (
  m_chk (zK S b2 = 14) (
  m_chk (¬ (0 : Int32) < 0 ∧ ¬ (0 : Int32) < 0 ∧ ¬ (64 : Int32) < 0 ∧ ((0 : Int32)).toNatClampNeg + ((64 : Int32)).toNatClampNeg ≤ zN S b1 ∧ ((0 : Int32)).toNatClampNeg + ((64 : Int32)).toNatClampNeg ≤ zN S b2) (
  m_bnd (zsC S b1 b2 ((0 : Int32)).toNatClampNeg ((0 : Int32)).toNatClampNeg ((64 : Int32)).toNatClampNeg) (fun S3 =>
  m_chk (zK S3 x1 = 0) (
  m_chk (zK S3 x0 = 0) (
  m_bnd (zsI S3 1 x0 (zI S3 1 x1)) (fun S4 =>
  m_chk (zK S4 x1 = 0) (
  m_chk (zK S4 x0 = 0) (
  m_bnd (zsI S4 2 x0 (zI S4 2 x1)) (fun S5 =>
  m_chk (zK S5 x1 = 0) (
  m_chk (zK S5 x0 = 0) (
  m_bnd (zsI S5 3 x0 (zI S5 3 x1)) (fun S6 =>
  m_chk (zK S6 x1 = 0) (
  m_chk (zK S6 x0 = 0) (
  m_bnd (zsI S6 4 x0 (zI S6 4 x1)) (fun S7 =>
  m_chk (zK S7 x1 = 0) (
  m_chk (zK S7 x0 = 0) (
  m_bnd (zsI S7 5 x0 (zI S7 5 x1)) (fun S8 =>
  m_chk (zK S8 x1 = 0) (
  m_chk (zK S8 x0 = 0) (
  m_bnd (zsI S8 6 x0 (zI S8 6 x1)) (fun S9 =>
  some (0, S9)))))))))))))))))))))))))))
def f_X0_copyFrom (x0 : Nat) (x1 : Nat) (S : ZS) : Option (Int32 × ZS) := f_X0_copyFrom_0 x0 x1 S
def f_X0_kindAt_0 (x0 : Nat) (x1 : Int32) (S : ZS) : Option (Int32 × ZS) :=
  m_chk (zK S x0 = 0) (
  m_cal (zP S 0 x0) (fun b1 =>
  m_chk (zK S b1 = 14) (
  m_chk (¬ (x1 < 0 ∨ zN S b1 ≤ (x1).toNatClampNeg)) (
  m_bnd (zA S b1 (x1).toNatClampNeg) (fun v2 =>
  m_bnd (v2 &&& (7 : Int32)) (fun v3 =>
  some (v3, S)))))))
def f_X0_kindAt (x0 : Nat) (x1 : Int32) (S : ZS) : Option (Int32 × ZS) := f_X0_kindAt_0 x0 x1 S
def f_X0_kingOf_15 (t0 : Int32) (S : ZS) : Option (Int32 × ZS) :=
  some (t0, S)
def f_X0_kingOf_0 (x0 : Nat) (x1 : Int32) (S : ZS) : Option (Int32 × ZS) :=
  m_if (x1 = 0) (
  m_chk (zK S x0 = 0) (
  f_X0_kingOf_15 (zI S 1 x0) S)
  ) (
  m_chk (zK S x0 = 0) (
  f_X0_kingOf_15 (zI S 2 x0) S)
  )
def f_X0_kingOf (x0 : Nat) (x1 : Int32) (S : ZS) : Option (Int32 × ZS) := f_X0_kingOf_0 x0 x1 S
def f_X0_attacks_235 (S : ZS) : Option (Int32 × ZS) :=
  m_chk (vp_nar .boolean (0 : Int32) = (0 : Int32)) (some ((0 : Int32), S))
def f_X0_attacks_281s (self281 : Nat → Int32 → Int32 → Int32 → Int32 → ZS → Option (Int32 × ZS)) (x0 : Nat) (x1 : Int32) (x8 : Int32) (x11 : Int32) (x12 : Int32) (S : ZS) : Option (Int32 × ZS) :=
  m_if (x8 ≤ x12) (
  m_chk (vp_nar .boolean (1 : Int32) = (1 : Int32)) (some ((1 : Int32), S))
  ) (
  m_chk (zK S x0 = 0) (
  m_cal (zP S 0 x0) (fun b1 =>
  m_bnd (x12 * x11) (fun v2 =>
  m_bnd (x1 + v2) (fun v3 =>
  m_chk (zK S b1 = 14) (
  m_chk (¬ (v3 < 0 ∨ zN S b1 ≤ (v3).toNatClampNeg)) (
  m_bnd (zA S b1 (v3).toNatClampNeg) (fun v4 =>
  m_if (v4 = 0) (
  m_bnd (x12 + (1 : Int32)) (fun v5 =>
  self281 x0 x1 x8 x11 v5 S)
  ) (
  m_chk (vp_nar .boolean (0 : Int32) = (0 : Int32)) (some ((0 : Int32), S))
  ))))))))
  )
def f_X0_attacks_281 : Nat → Nat → Int32 → Int32 → Int32 → Int32 → ZS → Option (Int32 × ZS)
  | 0 => fun _ _ _ _ _ _ => none
  | n + 1 => f_X0_attacks_281s (f_X0_attacks_281 n)
def f_X0_attacks_275 (x0 : Nat) (x1 : Int32) (x8 : Int32) (t0 : Int32) (t1 : Int32) (S : ZS) : Option (Int32 × ZS) :=
  m_bnd (t1 + t0) (fun v1 =>
  f_X0_attacks_281 mFuel x0 x1 x8 v1 (1 : Int32) S)
def f_X0_attacks_254 (x0 : Nat) (x1 : Int32) (x4 : Int32) (x8 : Int32) (t0 : Int32) (S : ZS) : Option (Int32 × ZS) :=
  m_if (x4 ≤ 0) (
  m_if (0 ≤ x4) (
  f_X0_attacks_275 x0 x1 x8 (0 : Int32) t0 S
  ) (
  f_X0_attacks_275 x0 x1 x8 (-8 : Int32) t0 S
  )
  ) (
  f_X0_attacks_275 x0 x1 x8 (8 : Int32) t0 S
  )
def f_X0_attacks_223 (x0 : Nat) (x1 : Int32) (x3 : Int32) (x4 : Int32) (x8 : Int32) (t0 : Int32) (S : ZS) : Option (Int32 × ZS) :=
  m_if (t0 = 0) (
  f_X0_attacks_235  S
  ) (
  m_if (x8 = 0) (
  f_X0_attacks_235  S
  ) (
  m_if (x3 ≤ 0) (
  m_if (0 ≤ x3) (
  f_X0_attacks_254 x0 x1 x4 x8 (0 : Int32) S
  ) (
  f_X0_attacks_254 x0 x1 x4 x8 (-1 : Int32) S
  )
  ) (
  f_X0_attacks_254 x0 x1 x4 x8 (1 : Int32) S
  )
  )
  )
def f_X0_attacks_222 (x0 : Nat) (x1 : Int32) (x3 : Int32) (x4 : Int32) (x8 : Int32) (S : ZS) : Option (Int32 × ZS) :=
  f_X0_attacks_223 x0 x1 x3 x4 x8 (0 : Int32) S
def f_X0_attacks_218 (x0 : Nat) (x1 : Int32) (x3 : Int32) (x4 : Int32) (x8 : Int32) (S : ZS) : Option (Int32 × ZS) :=
  f_X0_attacks_223 x0 x1 x3 x4 x8 (1 : Int32) S
def f_X0_attacks_191 (x0 : Nat) (x1 : Int32) (x3 : Int32) (x4 : Int32) (x8 : Int32) (S : ZS) : Option (Int32 × ZS) :=
  f_X0_attacks_223 x0 x1 x3 x4 x8 (1 : Int32) S
def f_X0_attacks_172 (x0 : Nat) (x1 : Int32) (x3 : Int32) (x4 : Int32) (x5 : Int32) (x6 : Int32) (x7 : Int32) (x8 : Int32) (t0 : Int32) (S : ZS) : Option (Int32 × ZS) :=
  m_if (t0 = 0) (
  m_if (x6 = x7) (
  m_if (x5 = (3 : Int32)) (
  f_X0_attacks_218 x0 x1 x3 x4 x8 S
  ) (
  m_if (x5 = (5 : Int32)) (
  f_X0_attacks_218 x0 x1 x3 x4 x8 S
  ) (
  f_X0_attacks_222 x0 x1 x3 x4 x8 S
  )
  )
  ) (
  f_X0_attacks_222 x0 x1 x3 x4 x8 S
  )
  ) (
  m_if (x5 = (4 : Int32)) (
  f_X0_attacks_191 x0 x1 x3 x4 x8 S
  ) (
  m_if (x5 = (5 : Int32)) (
  f_X0_attacks_191 x0 x1 x3 x4 x8 S
  ) (
  f_X0_attacks_223 x0 x1 x3 x4 x8 (0 : Int32) S
  )
  )
  )
def f_X0_attacks_167 (x0 : Nat) (x1 : Int32) (x3 : Int32) (x4 : Int32) (x5 : Int32) (x6 : Int32) (x7 : Int32) (x8 : Int32) (S : ZS) : Option (Int32 × ZS) :=
  f_X0_attacks_172 x0 x1 x3 x4 x5 x6 x7 x8 (1 : Int32) S
def f_X0_attacks_156 (t0 : Int32) (S : ZS) : Option (Int32 × ZS) :=
  m_chk (vp_nar .boolean t0 = t0) (some (t0, S))
def f_X0_attacks_136 (x0 : Nat) (x1 : Int32) (x3 : Int32) (x4 : Int32) (x5 : Int32) (x6 : Int32) (x7 : Int32) (t0 : Int32) (S : ZS) : Option (Int32 × ZS) :=
  m_if (x5 = (6 : Int32)) (
  m_if (t0 = (1 : Int32)) (
  f_X0_attacks_156 (1 : Int32) S
  ) (
  f_X0_attacks_156 (0 : Int32) S
  )
  ) (
  m_if (x6 = 0) (
  f_X0_attacks_167 x0 x1 x3 x4 x5 x6 x7 t0 S
  ) (
  m_if (x7 = 0) (
  f_X0_attacks_167 x0 x1 x3 x4 x5 x6 x7 t0 S
  ) (
  f_X0_attacks_172 x0 x1 x3 x4 x5 x6 x7 t0 (0 : Int32) S
  )
  )
  )
def f_X0_attacks_120 (x0 : Nat) (x1 : Int32) (x3 : Int32) (x4 : Int32) (x5 : Int32) (x6 : Int32) (t0 : Int32) (S : ZS) : Option (Int32 × ZS) :=
  m_if (x6 ≤ t0) (
  f_X0_attacks_136 x0 x1 x3 x4 x5 x6 t0 t0 S
  ) (
  f_X0_attacks_136 x0 x1 x3 x4 x5 x6 t0 x6 S
  )
def f_X0_attacks_105 (x0 : Nat) (x1 : Int32) (x3 : Int32) (x4 : Int32) (x5 : Int32) (t0 : Int32) (S : ZS) : Option (Int32 × ZS) :=
  m_if (0 ≤ x4) (
  f_X0_attacks_120 x0 x1 x3 x4 x5 t0 x4 S
  ) (
  m_bnd (-x4) (fun v1 =>
  f_X0_attacks_120 x0 x1 x3 x4 x5 t0 v1 S)
  )
def f_X0_attacks_94 (t0 : Int32) (S : ZS) : Option (Int32 × ZS) :=
  m_chk (vp_nar .boolean t0 = t0) (some (t0, S))
def f_X0_attacks_69 (t0 : Int32) (S : ZS) : Option (Int32 × ZS) :=
  m_chk (vp_nar .boolean t0 = t0) (some (t0, S))
def f_X0_attacks_68 (S : ZS) : Option (Int32 × ZS) :=
  f_X0_attacks_69 (0 : Int32) S
def f_X0_attacks_54 (x3 : Int32) (t0 : Int32) (t1 : Int32) (S : ZS) : Option (Int32 × ZS) :=
  m_if (t1 = t0) (
  m_bnd (x3 * x3) (fun v1 =>
  m_if (v1 = (1 : Int32)) (
  f_X0_attacks_69 (1 : Int32) S
  ) (
  f_X0_attacks_68  S
  ))
  ) (
  f_X0_attacks_68  S
  )
def f_X0_attacks_0 (x0 : Nat) (x1 : Int32) (x2 : Int32) (S : ZS) : Option (Int32 × ZS) :=
  m_bnd (x2 &&& (7 : Int32)) (fun v1 =>
  m_bnd (x1 &&& (7 : Int32)) (fun v2 =>
  m_bnd (v1 - v2) (fun v3 =>
  m_bnd (x2 >>> ((3 : Int32) &&& 31)) (fun v4 =>
  m_bnd (x1 >>> ((3 : Int32) &&& 31)) (fun v5 =>
  m_bnd (v4 - v5) (fun v6 =>
  m_chk (zK S x0 = 0) (
  m_cal (zP S 0 x0) (fun b7 =>
  m_chk (zK S b7 = 14) (
  m_chk (¬ (x1 < 0 ∨ zN S b7 ≤ (x1).toNatClampNeg)) (
  m_bnd (zA S b7 (x1).toNatClampNeg) (fun v8 =>
  m_bnd (v8 &&& (7 : Int32)) (fun v9 =>
  m_if (v9 = (1 : Int32)) (
  m_chk (zK S x0 = 0) (
  m_cal (zP S 0 x0) (fun b14 =>
  m_chk (zK S b14 = 14) (
  m_chk (¬ (x1 < 0 ∨ zN S b14 ≤ (x1).toNatClampNeg)) (
  m_bnd (zA S b14 (x1).toNatClampNeg) (fun v15 =>
  m_if ((8 : Int32) ≤ v15) (
  f_X0_attacks_54 v3 (-1 : Int32) v6 S
  ) (
  f_X0_attacks_54 v3 (1 : Int32) v6 S
  ))))))
  ) (
  m_if (v9 = (2 : Int32)) (
  m_bnd (v3 * v3) (fun v11 =>
  m_bnd (v6 * v6) (fun v12 =>
  m_bnd (v11 + v12) (fun v13 =>
  m_if (v13 = (5 : Int32)) (
  f_X0_attacks_94 (1 : Int32) S
  ) (
  f_X0_attacks_94 (0 : Int32) S
  ))))
  ) (
  m_if (0 ≤ v3) (
  f_X0_attacks_105 x0 x1 v3 v6 v9 v3 S
  ) (
  m_bnd (-v3) (fun v10 =>
  f_X0_attacks_105 x0 x1 v3 v6 v9 v10 S)
  )
  )
  )))))))))))))
def f_X0_attacks (x0 : Nat) (x1 : Int32) (x2 : Int32) (S : ZS) : Option (Int32 × ZS) := f_X0_attacks_0 x0 x1 x2 S
def f_X0_attacked_40 (self2 : Nat → Int32 → Int32 → Int32 → ZS → Option (Int32 × ZS)) (x0 : Nat) (x1 : Int32) (x2 : Int32) (x3 : Int32) (S : ZS) : Option (Int32 × ZS) :=
  m_bnd (x3 + (1 : Int32)) (fun v1 =>
  self2 x0 x1 x2 v1 S)
def f_X0_attacked_2s (self2 : Nat → Int32 → Int32 → Int32 → ZS → Option (Int32 × ZS)) (x0 : Nat) (x1 : Int32) (x2 : Int32) (x3 : Int32) (S : ZS) : Option (Int32 × ZS) :=
  m_if ((64 : Int32) ≤ x3) (
  m_chk (vp_nar .boolean (0 : Int32) = (0 : Int32)) (some ((0 : Int32), S))
  ) (
  m_chk (zK S x0 = 0) (
  m_cal (zP S 0 x0) (fun b1 =>
  m_chk (zK S b1 = 14) (
  m_chk (¬ (x3 < 0 ∨ zN S b1 ≤ (x3).toNatClampNeg)) (
  m_bnd (zA S b1 (x3).toNatClampNeg) (fun v2 =>
  m_if (v2 = 0) (
  f_X0_attacked_40 self2 x0 x1 x2 x3 S
  ) (
  m_chk (zK S x0 = 0) (
  m_cal (zP S 0 x0) (fun b3 =>
  m_chk (zK S b3 = 14) (
  m_chk (¬ (x3 < 0 ∨ zN S b3 ≤ (x3).toNatClampNeg)) (
  m_bnd (zA S b3 (x3).toNatClampNeg) (fun v4 =>
  m_bnd (v4 >>> ((3 : Int32) &&& 31)) (fun v5 =>
  m_if (v5 = x2) (
  m_chk (zK S x0 = 0) (
  m_cal (f_X0_attacks x0 x3 x1 S) (fun o6 =>
  m_if (o6.1 = 0) (
  f_X0_attacked_40 self2 x0 x1 x2 x3 o6.2
  ) (
  m_chk (vp_nar .boolean (1 : Int32) = (1 : Int32)) (some ((1 : Int32), o6.2))
  )))
  ) (
  f_X0_attacked_40 self2 x0 x1 x2 x3 S
  )))))))
  ))))))
  )
def f_X0_attacked_2 : Nat → Nat → Int32 → Int32 → Int32 → ZS → Option (Int32 × ZS)
  | 0 => fun _ _ _ _ _ => none
  | n + 1 => f_X0_attacked_2s (f_X0_attacked_2 n)
def f_X0_attacked_0 (x0 : Nat) (x1 : Int32) (x2 : Int32) (S : ZS) : Option (Int32 × ZS) :=
  f_X0_attacked_2 mFuel x0 x1 x2 (0 : Int32) S
def f_X0_attacked (x0 : Nat) (x1 : Int32) (x2 : Int32) (S : ZS) : Option (Int32 × ZS) := f_X0_attacked_0 x0 x1 x2 S
def f_X0_pawnReaches_122 (t0 : Int32) (S : ZS) : Option (Int32 × ZS) :=
  m_chk (vp_nar .boolean t0 = t0) (some (t0, S))
def f_X0_pawnReaches_121 (S : ZS) : Option (Int32 × ZS) :=
  f_X0_pawnReaches_122 (0 : Int32) S
def f_X0_pawnReaches_117 (S : ZS) : Option (Int32 × ZS) :=
  f_X0_pawnReaches_122 (1 : Int32) S
def f_X0_pawnReaches_90 (t0 : Int32) (S : ZS) : Option (Int32 × ZS) :=
  m_chk (vp_nar .boolean t0 = t0) (some (t0, S))
def f_X0_pawnReaches_89 (S : ZS) : Option (Int32 × ZS) :=
  f_X0_pawnReaches_90 (0 : Int32) S
def f_X0_pawnReaches_62 (x0 : Nat) (x1 : Int32) (x2 : Int32) (x3 : Int32) (t0 : Int32) (t1 : Int32) (S : ZS) : Option (Int32 × ZS) :=
  m_if (t1 = t0) (
  m_chk (zK S x0 = 0) (
  m_cal (zP S 0 x0) (fun b1 =>
  m_bnd (x1 + x3) (fun v2 =>
  m_chk (zK S b1 = 14) (
  m_chk (¬ (v2 < 0 ∨ zN S b1 ≤ (v2).toNatClampNeg)) (
  m_bnd (zA S b1 (v2).toNatClampNeg) (fun v3 =>
  m_if (v3 = 0) (
  m_chk (zK S x0 = 0) (
  m_cal (zP S 0 x0) (fun b4 =>
  m_chk (zK S b4 = 14) (
  m_chk (¬ (x2 < 0 ∨ zN S b4 ≤ (x2).toNatClampNeg)) (
  m_bnd (zA S b4 (x2).toNatClampNeg) (fun v5 =>
  m_if (v5 = 0) (
  f_X0_pawnReaches_90 (1 : Int32) S
  ) (
  f_X0_pawnReaches_89  S
  ))))))
  ) (
  f_X0_pawnReaches_89  S
  )))))))
  ) (
  f_X0_pawnReaches_89  S
  )
def f_X0_pawnReaches_36 (t0 : Int32) (S : ZS) : Option (Int32 × ZS) :=
  m_chk (vp_nar .boolean t0 = t0) (some (t0, S))
def f_X0_pawnReaches_14 (x0 : Nat) (x1 : Int32) (x2 : Int32) (t0 : Int32) (S : ZS) : Option (Int32 × ZS) :=
  m_bnd (x1 + t0) (fun v1 =>
  m_if (x2 = v1) (
  m_chk (zK S x0 = 0) (
  m_cal (zP S 0 x0) (fun b8 =>
  m_chk (zK S b8 = 14) (
  m_chk (¬ (x2 < 0 ∨ zN S b8 ≤ (x2).toNatClampNeg)) (
  m_bnd (zA S b8 (x2).toNatClampNeg) (fun v9 =>
  m_if (v9 = 0) (
  f_X0_pawnReaches_36 (1 : Int32) S
  ) (
  f_X0_pawnReaches_36 (0 : Int32) S
  ))))))
  ) (
  m_bnd ((2 : Int32) * t0) (fun v2 =>
  m_bnd (x1 + v2) (fun v3 =>
  m_if (x2 = v3) (
  m_bnd (x1 >>> ((3 : Int32) &&& 31)) (fun v7 =>
  m_chk (zK S x0 = 0) (
  m_if ((zI S 3 x0) = 0) (
  f_X0_pawnReaches_62 x0 x1 x2 t0 (1 : Int32) v7 S
  ) (
  f_X0_pawnReaches_62 x0 x1 x2 t0 (6 : Int32) v7 S
  )))
  ) (
  m_chk (zK S x0 = 0) (
  m_cal (f_X0_attacks x0 x1 x2 S) (fun o4 =>
  m_if (o4.1 = 0) (
  f_X0_pawnReaches_121  o4.2
  ) (
  m_chk (zK o4.2 x0 = 0) (
  m_cal (zP o4.2 0 x0) (fun b5 =>
  m_chk (zK o4.2 b5 = 14) (
  m_chk (¬ (x2 < 0 ∨ zN o4.2 b5 ≤ (x2).toNatClampNeg)) (
  m_bnd (zA o4.2 b5 (x2).toNatClampNeg) (fun v6 =>
  m_if (v6 = 0) (
  m_chk (zK o4.2 x0 = 0) (
  m_if (x2 = (zI o4.2 5 x0)) (
  f_X0_pawnReaches_117  o4.2
  ) (
  f_X0_pawnReaches_121  o4.2
  ))
  ) (
  f_X0_pawnReaches_117  o4.2
  ))))))
  )))
  )))
  ))
def f_X0_pawnReaches_0 (x0 : Nat) (x1 : Int32) (x2 : Int32) (S : ZS) : Option (Int32 × ZS) :=
  m_chk (zK S x0 = 0) (
  m_if ((zI S 3 x0) = 0) (
  f_X0_pawnReaches_14 x0 x1 x2 (8 : Int32) S
  ) (
  f_X0_pawnReaches_14 x0 x1 x2 (-8 : Int32) S
  ))
def f_X0_pawnReaches (x0 : Nat) (x1 : Int32) (x2 : Int32) (S : ZS) : Option (Int32 × ZS) := f_X0_pawnReaches_0 x0 x1 x2 S
def f_X0_castles_42 (t0 : Int32) (S : ZS) : Option (Int32 × ZS) :=
  m_chk (vp_nar .boolean t0 = t0) (some (t0, S))
def f_X0_castles_41 (S : ZS) : Option (Int32 × ZS) :=
  f_X0_castles_42 (0 : Int32) S
def f_X0_castles_37 (S : ZS) : Option (Int32 × ZS) :=
  f_X0_castles_42 (1 : Int32) S
def f_X0_castles_0 (x0 : Nat) (x1 : Int32) (x2 : Int32) (S : ZS) : Option (Int32 × ZS) :=
  m_chk (zK S x0 = 0) (
  m_cal (zP S 0 x0) (fun b1 =>
  m_chk (zK S b1 = 14) (
  m_chk (¬ (x1 < 0 ∨ zN S b1 ≤ (x1).toNatClampNeg)) (
  m_bnd (zA S b1 (x1).toNatClampNeg) (fun v2 =>
  m_bnd (v2 &&& (7 : Int32)) (fun v3 =>
  m_if (v3 = (6 : Int32)) (
  m_bnd (x1 >>> ((3 : Int32) &&& 31)) (fun v4 =>
  m_bnd (x2 >>> ((3 : Int32) &&& 31)) (fun v5 =>
  m_if (v4 = v5) (
  m_bnd (x1 + (2 : Int32)) (fun v6 =>
  m_if (x2 = v6) (
  f_X0_castles_37  S
  ) (
  m_bnd (x1 - (2 : Int32)) (fun v7 =>
  m_if (x2 = v7) (
  f_X0_castles_37  S
  ) (
  f_X0_castles_41  S
  ))
  ))
  ) (
  f_X0_castles_41  S
  )))
  ) (
  f_X0_castles_41  S
  )))))))
def f_X0_castles (x0 : Nat) (x1 : Int32) (x2 : Int32) (S : ZS) : Option (Int32 × ZS) := f_X0_castles_0 x0 x1 x2 S
def f_X0_castlingIsOpen_50 (S : ZS) : Option (Int32 × ZS) :=
  m_chk (vp_nar .boolean (0 : Int32) = (0 : Int32)) (some ((0 : Int32), S))
def f_X0_castlingIsOpen_123 (t0 : Int32) (S : ZS) : Option (Int32 × ZS) :=
  m_chk (vp_nar .boolean t0 = t0) (some (t0, S))
def f_X0_castlingIsOpen_122 (S : ZS) : Option (Int32 × ZS) :=
  f_X0_castlingIsOpen_123 (0 : Int32) S
def f_X0_castlingIsOpen_84 (t0 : Int32) (S : ZS) : Option (Int32 × ZS) :=
  m_chk (vp_nar .boolean t0 = t0) (some (t0, S))
def f_X0_castlingIsOpen_83 (S : ZS) : Option (Int32 × ZS) :=
  f_X0_castlingIsOpen_84 (0 : Int32) S
def f_X0_castlingIsOpen_38 (x0 : Nat) (x1 : Int32) (x2 : Int32) (x3 : Int32) (t0 : Int32) (t1 : Int32) (S : ZS) : Option (Int32 × ZS) :=
  m_if (t1 = t0) (
  m_chk (zK S x0 = 0) (
  m_bnd ((zI S 4 x0) &&& x3) (fun v1 =>
  m_if (v1 = 0) (
  f_X0_castlingIsOpen_50  S
  ) (
  m_if (x2 ≤ x1) (
  m_chk (zK S x0 = 0) (
  m_cal (zP S 0 x0) (fun b2 =>
  m_bnd (x1 - (1 : Int32)) (fun v3 =>
  m_chk (zK S b2 = 14) (
  m_chk (¬ (v3 < 0 ∨ zN S b2 ≤ (v3).toNatClampNeg)) (
  m_bnd (zA S b2 (v3).toNatClampNeg) (fun v4 =>
  m_if (v4 = 0) (
  m_chk (zK S x0 = 0) (
  m_cal (zP S 0 x0) (fun b5 =>
  m_bnd (x1 - (2 : Int32)) (fun v6 =>
  m_chk (zK S b5 = 14) (
  m_chk (¬ (v6 < 0 ∨ zN S b5 ≤ (v6).toNatClampNeg)) (
  m_bnd (zA S b5 (v6).toNatClampNeg) (fun v7 =>
  m_if (v7 = 0) (
  m_chk (zK S x0 = 0) (
  m_cal (zP S 0 x0) (fun b8 =>
  m_bnd (x1 - (3 : Int32)) (fun v9 =>
  m_chk (zK S b8 = 14) (
  m_chk (¬ (v9 < 0 ∨ zN S b8 ≤ (v9).toNatClampNeg)) (
  m_bnd (zA S b8 (v9).toNatClampNeg) (fun v10 =>
  m_if (v10 = 0) (
  f_X0_castlingIsOpen_123 (1 : Int32) S
  ) (
  f_X0_castlingIsOpen_122  S
  )))))))
  ) (
  f_X0_castlingIsOpen_122  S
  )))))))
  ) (
  f_X0_castlingIsOpen_122  S
  )))))))
  ) (
  m_chk (zK S x0 = 0) (
  m_cal (zP S 0 x0) (fun b11 =>
  m_bnd (x1 + (1 : Int32)) (fun v12 =>
  m_chk (zK S b11 = 14) (
  m_chk (¬ (v12 < 0 ∨ zN S b11 ≤ (v12).toNatClampNeg)) (
  m_bnd (zA S b11 (v12).toNatClampNeg) (fun v13 =>
  m_if (v13 = 0) (
  m_chk (zK S x0 = 0) (
  m_cal (zP S 0 x0) (fun b14 =>
  m_bnd (x1 + (2 : Int32)) (fun v15 =>
  m_chk (zK S b14 = 14) (
  m_chk (¬ (v15 < 0 ∨ zN S b14 ≤ (v15).toNatClampNeg)) (
  m_bnd (zA S b14 (v15).toNatClampNeg) (fun v16 =>
  m_if (v16 = 0) (
  f_X0_castlingIsOpen_84 (1 : Int32) S
  ) (
  f_X0_castlingIsOpen_83  S
  )))))))
  ) (
  f_X0_castlingIsOpen_83  S
  )))))))
  )
  )))
  ) (
  f_X0_castlingIsOpen_50  S
  )
def f_X0_castlingIsOpen_22 (x0 : Nat) (x1 : Int32) (x2 : Int32) (t0 : Int32) (t1 : Int32) (S : ZS) : Option (Int32 × ZS) :=
  m_bnd (t1 <<< (t0 &&& 31)) (fun v1 =>
  m_chk (zK S x0 = 0) (
  m_if ((zI S 3 x0) = 0) (
  f_X0_castlingIsOpen_38 x0 x1 x2 v1 (4 : Int32) x1 S
  ) (
  f_X0_castlingIsOpen_38 x0 x1 x2 v1 (60 : Int32) x1 S
  )))
def f_X0_castlingIsOpen_10 (x0 : Nat) (x1 : Int32) (x2 : Int32) (t0 : Int32) (S : ZS) : Option (Int32 × ZS) :=
  m_chk (zK S x0 = 0) (
  m_if ((zI S 3 x0) = 0) (
  f_X0_castlingIsOpen_22 x0 x1 x2 (0 : Int32) t0 S
  ) (
  f_X0_castlingIsOpen_22 x0 x1 x2 (2 : Int32) t0 S
  ))
def f_X0_castlingIsOpen_0 (x0 : Nat) (x1 : Int32) (x2 : Int32) (S : ZS) : Option (Int32 × ZS) :=
  m_if (x2 ≤ x1) (
  f_X0_castlingIsOpen_10 x0 x1 x2 (2 : Int32) S
  ) (
  f_X0_castlingIsOpen_10 x0 x1 x2 (1 : Int32) S
  )
def f_X0_castlingIsOpen (x0 : Nat) (x1 : Int32) (x2 : Int32) (S : ZS) : Option (Int32 × ZS) := f_X0_castlingIsOpen_0 x0 x1 x2 S
def f_X0_reaches_45 (S : ZS) : Option (Int32 × ZS) :=
  m_chk (vp_nar .boolean (0 : Int32) = (0 : Int32)) (some ((0 : Int32), S))
def f_X0_reaches_95 (t0 : Int32) (S : ZS) : Option (Int32 × ZS) :=
  m_chk (vp_nar .boolean t0 = t0) (some (t0, S))
def f_X0_reaches_90 (S : ZS) : Option (Int32 × ZS) :=
  f_X0_reaches_95 (1 : Int32) S
def f_X0_reaches_94 (S : ZS) : Option (Int32 × ZS) :=
  f_X0_reaches_95 (0 : Int32) S
def f_X0_reaches_47 (x0 : Nat) (x1 : Int32) (x2 : Int32) (S : ZS) : Option (Int32 × ZS) :=
  m_chk (zK S x0 = 0) (
  m_cal (f_X0_kindAt x0 x1 S) (fun o1 =>
  m_if (o1.1 = (1 : Int32)) (
  m_chk (zK o1.2 x0 = 0) (
  m_cal (f_X0_pawnReaches x0 x1 x2 o1.2) (fun o5 =>
  m_chk (vp_nar .boolean o5.1 = o5.1) (some (o5.1, o5.2))))
  ) (
  m_chk (zK o1.2 x0 = 0) (
  m_cal (f_X0_attacks x0 x1 x2 o1.2) (fun o2 =>
  m_if (o2.1 = 0) (
  m_chk (zK o2.2 x0 = 0) (
  m_cal (f_X0_castles x0 x1 x2 o2.2) (fun o3 =>
  m_if (o3.1 = 0) (
  f_X0_reaches_94  o3.2
  ) (
  m_chk (zK o3.2 x0 = 0) (
  m_cal (f_X0_castlingIsOpen x0 x1 x2 o3.2) (fun o4 =>
  m_if (o4.1 = 0) (
  f_X0_reaches_94  o4.2
  ) (
  f_X0_reaches_90  o4.2
  )))
  )))
  ) (
  f_X0_reaches_90  o2.2
  )))
  )))
def f_X0_reaches_0 (x0 : Nat) (x1 : Int32) (x2 : Int32) (S : ZS) : Option (Int32 × ZS) :=
  m_chk (zK S x0 = 0) (
  m_cal (zP S 0 x0) (fun b1 =>
  m_chk (zK S b1 = 14) (
  m_chk (¬ (x1 < 0 ∨ zN S b1 ≤ (x1).toNatClampNeg)) (
  m_bnd (zA S b1 (x1).toNatClampNeg) (fun v2 =>
  m_if (v2 = 0) (
  f_X0_reaches_45  S
  ) (
  m_bnd (v2 >>> ((3 : Int32) &&& 31)) (fun v3 =>
  m_chk (zK S x0 = 0) (
  m_if (v3 = (zI S 3 x0)) (
  m_chk (zK S x0 = 0) (
  m_cal (zP S 0 x0) (fun b4 =>
  m_chk (zK S b4 = 14) (
  m_chk (¬ (x2 < 0 ∨ zN S b4 ≤ (x2).toNatClampNeg)) (
  m_bnd (zA S b4 (x2).toNatClampNeg) (fun v5 =>
  m_if (v5 = 0) (
  f_X0_reaches_47 x0 x1 x2 S
  ) (
  m_chk (zK S x0 = 0) (
  m_cal (zP S 0 x0) (fun b6 =>
  m_chk (zK S b6 = 14) (
  m_chk (¬ (x2 < 0 ∨ zN S b6 ≤ (x2).toNatClampNeg)) (
  m_bnd (zA S b6 (x2).toNatClampNeg) (fun v7 =>
  m_bnd (v7 >>> ((3 : Int32) &&& 31)) (fun v8 =>
  m_chk (zK S x0 = 0) (
  m_if (v8 = (zI S 3 x0)) (
  f_X0_reaches_45  S
  ) (
  f_X0_reaches_47 x0 x1 x2 S
  ))))))))
  ))))))
  ) (
  f_X0_reaches_45  S
  )))
  ))))))
def f_X0_reaches (x0 : Nat) (x1 : Int32) (x2 : Int32) (S : ZS) : Option (Int32 × ZS) := f_X0_reaches_0 x0 x1 x2 S
def f_X0_takes_34 (t0 : Int32) (S : ZS) : Option (Int32 × ZS) :=
  m_chk (vp_nar .boolean t0 = t0) (some (t0, S))
def f_X0_takes_29 (S : ZS) : Option (Int32 × ZS) :=
  f_X0_takes_34 (1 : Int32) S
def f_X0_takes_33 (S : ZS) : Option (Int32 × ZS) :=
  f_X0_takes_34 (0 : Int32) S
def f_X0_takes_0 (x0 : Nat) (x1 : Int32) (x2 : Int32) (S : ZS) : Option (Int32 × ZS) :=
  m_chk (zK S x0 = 0) (
  m_cal (zP S 0 x0) (fun b1 =>
  m_chk (zK S b1 = 14) (
  m_chk (¬ (x2 < 0 ∨ zN S b1 ≤ (x2).toNatClampNeg)) (
  m_bnd (zA S b1 (x2).toNatClampNeg) (fun v2 =>
  m_if (v2 = 0) (
  m_chk (zK S x0 = 0) (
  m_cal (f_X0_kindAt x0 x1 S) (fun o3 =>
  m_if (o3.1 = (1 : Int32)) (
  m_bnd (x1 &&& (7 : Int32)) (fun v4 =>
  m_bnd (x2 &&& (7 : Int32)) (fun v5 =>
  m_if (v4 = v5) (
  f_X0_takes_33  o3.2
  ) (
  f_X0_takes_29  o3.2
  )))
  ) (
  f_X0_takes_33  o3.2
  )))
  ) (
  f_X0_takes_29  S
  ))))))
def f_X0_takes (x0 : Nat) (x1 : Int32) (x2 : Int32) (S : ZS) : Option (Int32 × ZS) := f_X0_takes_0 x0 x1 x2 S
def f_X0_becomesAnother_26 (t0 : Int32) (S : ZS) : Option (Int32 × ZS) :=
  m_chk (vp_nar .boolean t0 = t0) (some (t0, S))
def f_X0_becomesAnother_25 (S : ZS) : Option (Int32 × ZS) :=
  f_X0_becomesAnother_26 (0 : Int32) S
def f_X0_becomesAnother_21 (S : ZS) : Option (Int32 × ZS) :=
  f_X0_becomesAnother_26 (1 : Int32) S
def f_X0_becomesAnother_0 (x0 : Nat) (x1 : Int32) (x2 : Int32) (S : ZS) : Option (Int32 × ZS) :=
  m_chk (zK S x0 = 0) (
  m_cal (f_X0_kindAt x0 x1 S) (fun o1 =>
  m_if (o1.1 = (1 : Int32)) (
  m_if (x2 < (8 : Int32)) (
  f_X0_becomesAnother_21  o1.2
  ) (
  m_if (x2 < (56 : Int32)) (
  f_X0_becomesAnother_25  o1.2
  ) (
  f_X0_becomesAnother_21  o1.2
  )
  )
  ) (
  f_X0_becomesAnother_25  o1.2
  )))
def f_X0_becomesAnother (x0 : Nat) (x1 : Int32) (x2 : Int32) (S : ZS) : Option (Int32 × ZS) := f_X0_becomesAnother_0 x0 x1 x2 S
def f_X0_pawnAttacks_34 (S : ZS) : Option (Int32 × ZS) :=
  m_chk (vp_nar .boolean (0 : Int32) = (0 : Int32)) (some ((0 : Int32), S))
def f_X0_pawnAttacks_85 (t0 : Int32) (S : ZS) : Option (Int32 × ZS) :=
  m_chk (vp_nar .boolean t0 = t0) (some (t0, S))
def f_X0_pawnAttacks_84 (S : ZS) : Option (Int32 × ZS) :=
  f_X0_pawnAttacks_85 (0 : Int32) S
def f_X0_pawnAttacks_80 (S : ZS) : Option (Int32 × ZS) :=
  f_X0_pawnAttacks_85 (1 : Int32) S
def f_X0_pawnAttacks_57 (x0 : Nat) (x3 : Int32) (x4 : Int32) (S : ZS) : Option (Int32 × ZS) :=
  m_bnd (x4 &&& (7 : Int32)) (fun v1 =>
  m_if ((7 : Int32) ≤ v1) (
  f_X0_pawnAttacks_84  S
  ) (
  m_chk (zK S x0 = 0) (
  m_cal (zP S 0 x0) (fun b2 =>
  m_bnd (x4 + (1 : Int32)) (fun v3 =>
  m_chk (zK S b2 = 14) (
  m_chk (¬ (v3 < 0 ∨ zN S b2 ≤ (v3).toNatClampNeg)) (
  m_bnd (zA S b2 (v3).toNatClampNeg) (fun v4 =>
  m_if (v4 = x3) (
  f_X0_pawnAttacks_80  S
  ) (
  f_X0_pawnAttacks_84  S
  )))))))
  ))
def f_X0_pawnAttacks_19 (x0 : Nat) (x3 : Int32) (t0 : Int32) (t1 : Int32) (S : ZS) : Option (Int32 × ZS) :=
  m_bnd (t1 + t0) (fun v1 =>
  m_if (v1 < 0) (
  f_X0_pawnAttacks_34  S
  ) (
  m_if (v1 < (64 : Int32)) (
  m_bnd (v1 &&& (7 : Int32)) (fun v2 =>
  m_if (v2 ≤ 0) (
  f_X0_pawnAttacks_57 x0 x3 v1 S
  ) (
  m_chk (zK S x0 = 0) (
  m_cal (zP S 0 x0) (fun b3 =>
  m_bnd (v1 - (1 : Int32)) (fun v4 =>
  m_chk (zK S b3 = 14) (
  m_chk (¬ (v4 < 0 ∨ zN S b3 ≤ (v4).toNatClampNeg)) (
  m_bnd (zA S b3 (v4).toNatClampNeg) (fun v5 =>
  m_if (v5 = x3) (
  f_X0_pawnAttacks_80  S
  ) (
  f_X0_pawnAttacks_57 x0 x3 v1 S
  )))))))
  ))
  ) (
  f_X0_pawnAttacks_34  S
  )
  ))
def f_X0_pawnAttacks_0 (x0 : Nat) (x1 : Int32) (x2 : Int32) (S : ZS) : Option (Int32 × ZS) :=
  m_bnd ((8 : Int32) * x2) (fun v1 =>
  m_bnd ((1 : Int32) + v1) (fun v2 =>
  m_if (x2 = 0) (
  f_X0_pawnAttacks_19 x0 v2 (-8 : Int32) x1 S
  ) (
  f_X0_pawnAttacks_19 x0 v2 (8 : Int32) x1 S
  )))
def f_X0_pawnAttacks (x0 : Nat) (x1 : Int32) (x2 : Int32) (S : ZS) : Option (Int32 × ZS) := f_X0_pawnAttacks_0 x0 x1 x2 S
def f_X0_rightsOf_0 (x0 : Int32) (S : ZS) : Option (Int32 × ZS) :=
  m_if (x0 = (0 : Int32)) (
  some ((2 : Int32), S)
  ) (
  m_if (x0 = (4 : Int32)) (
  some ((3 : Int32), S)
  ) (
  m_if (x0 = (7 : Int32)) (
  some ((1 : Int32), S)
  ) (
  m_if (x0 = (56 : Int32)) (
  some ((8 : Int32), S)
  ) (
  m_if (x0 = (60 : Int32)) (
  some ((12 : Int32), S)
  ) (
  m_if (x0 = (63 : Int32)) (
  some ((4 : Int32), S)
  ) (
  some ((0 : Int32), S)
  ))))))
def f_X0_rightsOf (x0 : Int32) (S : ZS) : Option (Int32 × ZS) := f_X0_rightsOf_0 x0 S
def f_X0_play_227 (x0 : Nat) (S : ZS) : Option (Int32 × ZS) :=
  m_chk (zK S x0 = 0) (
  m_chk (zK S x0 = 0) (
  m_bnd ((zI S 6 x0) + (zI S 3 x0)) (fun v1 =>
  m_chk (zK S x0 = 0) (
  m_bnd (zsI S 6 x0 v1) (fun S2 =>
  m_chk (zK S2 x0 = 0) (
  m_bnd ((1 : Int32) - (zI S2 3 x0)) (fun v3 =>
  m_chk (zK S2 x0 = 0) (
  m_bnd (zsI S2 3 x0 v3) (fun S4 =>
  some (0, S4))))))))))
def f_X0_play_200 (x0 : Nat) (x2 : Int32) (x3 : Int32) (S : ZS) : Option (Int32 × ZS) :=
  m_bnd (x2 + x3) (fun v1 =>
  m_bnd (v1 / (2 : Int32)) (fun v2 =>
  m_chk (zK S x0 = 0) (
  m_bnd ((1 : Int32) - (zI S 3 x0)) (fun v3 =>
  m_chk (zK S x0 = 0) (
  m_cal (f_X0_pawnAttacks x0 v2 v3 S) (fun o4 =>
  m_if (o4.1 = 0) (
  f_X0_play_227 x0 o4.2
  ) (
  m_bnd (x2 + x3) (fun v5 =>
  m_bnd (v5 / (2 : Int32)) (fun v6 =>
  m_chk (zK o4.2 x0 = 0) (
  m_bnd (zsI o4.2 5 x0 v6) (fun S7 =>
  f_X0_play_227 x0 S7))))
  )))))))
def f_X0_play_144 (x0 : Nat) (x2 : Int32) (x3 : Int32) (x5 : Int32) (t0 : Int32) (t1 : Int32) (t2 : Nat) (S : ZS) : Option (Int32 × ZS) :=
  m_chk (zK S t2 = 0) (
  m_cal (f_X0_put t2 t1 t0 S) (fun o1 =>
  m_chk (zK o1.2 x0 = 0) (
  m_cal (zP o1.2 0 x0) (fun b2 =>
  m_chk (zK o1.2 b2 = 14) (
  m_chk (¬ (x2 < 0 ∨ zN o1.2 b2 ≤ (x2).toNatClampNeg)) (
  m_bnd (zsA o1.2 b2 (x2).toNatClampNeg (0 : Int32)) (fun S3 =>
  m_chk (zK S3 x0 = 0) (
  m_cal (f_X0_rightsOf x2 S3) (fun o4 =>
  m_cal (f_X0_rightsOf x3 o4.2) (fun o5 =>
  m_bnd (o4.1 ||| o5.1) (fun v6 =>
  m_bnd (v6 ^^^ (-1 : Int32)) (fun v7 =>
  m_bnd ((zI S3 4 x0) &&& v7) (fun v8 =>
  m_chk (zK o5.2 x0 = 0) (
  m_bnd (zsI o5.2 4 x0 v8) (fun S9 =>
  m_chk (zK S9 x0 = 0) (
  m_bnd (zsI S9 5 x0 (-1 : Int32)) (fun S10 =>
  m_if (x5 = 0) (
  f_X0_play_227 x0 S10
  ) (
  m_bnd (x2 + (16 : Int32)) (fun v11 =>
  m_if (x3 = v11) (
  f_X0_play_200 x0 x2 x3 S10
  ) (
  m_bnd (x2 - (16 : Int32)) (fun v12 =>
  m_if (x3 = v12) (
  f_X0_play_200 x0 x2 x3 S10
  ) (
  f_X0_play_227 x0 S10
  ))
  ))
  ))))))))))))))))))
def f_X0_play_118 (x0 : Nat) (x2 : Int32) (x3 : Int32) (x4 : Int32) (x5 : Int32) (S : ZS) : Option (Int32 × ZS) :=
  m_if (x4 = 0) (
  m_chk (zK S x0 = 0) (
  m_cal (zP S 0 x0) (fun b3 =>
  m_chk (zK S b3 = 14) (
  m_chk (¬ (x2 < 0 ∨ zN S b3 ≤ (x2).toNatClampNeg)) (
  m_bnd (zA S b3 (x2).toNatClampNeg) (fun v4 =>
  f_X0_play_144 x0 x2 x3 x5 v4 x3 x0 S)))))
  ) (
  m_chk (zK S x0 = 0) (
  m_bnd ((8 : Int32) * (zI S 3 x0)) (fun v1 =>
  m_bnd (x4 + v1) (fun v2 =>
  f_X0_play_144 x0 x2 x3 x5 v2 x3 x0 S)))
  )
def f_X0_play_91 (x0 : Nat) (x2 : Int32) (x3 : Int32) (x4 : Int32) (x5 : Int32) (t0 : Int32) (S : ZS) : Option (Int32 × ZS) :=
  m_chk (zK S x0 = 0) (
  m_cal (zP S 0 x0) (fun b1 =>
  m_bnd (x2 + x3) (fun v2 =>
  m_bnd (v2 / (2 : Int32)) (fun v3 =>
  m_chk (zK S x0 = 0) (
  m_cal (zP S 0 x0) (fun b4 =>
  m_chk (zK S b4 = 14) (
  m_chk (¬ (t0 < 0 ∨ zN S b4 ≤ (t0).toNatClampNeg)) (
  m_bnd (zA S b4 (t0).toNatClampNeg) (fun v5 =>
  m_chk (zK S b1 = 14) (
  m_chk (¬ (v3 < 0 ∨ zN S b1 ≤ (v3).toNatClampNeg)) (
  m_bnd (zsA S b1 (v3).toNatClampNeg v5) (fun S6 =>
  m_chk (zK S6 x0 = 0) (
  m_cal (zP S6 0 x0) (fun b7 =>
  m_chk (zK S6 b7 = 14) (
  m_chk (¬ (t0 < 0 ∨ zN S6 b7 ≤ (t0).toNatClampNeg)) (
  m_bnd (zsA S6 b7 (t0).toNatClampNeg (0 : Int32)) (fun S8 =>
  f_X0_play_118 x0 x2 x3 x4 x5 S8)))))))))))))))))
def f_X0_play_66 (x0 : Nat) (x2 : Int32) (x3 : Int32) (x4 : Int32) (x5 : Int32) (S : ZS) : Option (Int32 × ZS) :=
  m_chk (zK S x0 = 0) (
  m_cal (f_X0_castles x0 x2 x3 S) (fun o1 =>
  m_if (o1.1 = 0) (
  f_X0_play_118 x0 x2 x3 x4 x5 o1.2
  ) (
  m_if (x3 ≤ x2) (
  m_bnd (x2 &&& (56 : Int32)) (fun v2 =>
  f_X0_play_91 x0 x2 x3 x4 x5 v2 o1.2)
  ) (
  m_bnd (x2 ||| (7 : Int32)) (fun v3 =>
  f_X0_play_91 x0 x2 x3 x4 x5 v3 o1.2)
  )
  )))
def f_X0_play_36 (x0 : Nat) (x2 : Int32) (x3 : Int32) (x4 : Int32) (t0 : Int32) (S : ZS) : Option (Int32 × ZS) :=
  m_if (t0 = 0) (
  f_X0_play_66 x0 x2 x3 x4 t0 S
  ) (
  m_chk (zK S x0 = 0) (
  m_if (x3 = (zI S 5 x0)) (
  m_chk (zK S x0 = 0) (
  m_cal (zP S 0 x0) (fun b1 =>
  m_bnd (x2 &&& (56 : Int32)) (fun v2 =>
  m_bnd (x3 &&& (7 : Int32)) (fun v3 =>
  m_bnd (v2 + v3) (fun v4 =>
  m_chk (zK S b1 = 14) (
  m_chk (¬ (v4 < 0 ∨ zN S b1 ≤ (v4).toNatClampNeg)) (
  m_bnd (zsA S b1 (v4).toNatClampNeg (0 : Int32)) (fun S5 =>
  f_X0_play_66 x0 x2 x3 x4 t0 S5))))))))
  ) (
  f_X0_play_66 x0 x2 x3 x4 t0 S
  ))
  )
def f_X0_play_0 (x0 : Nat) (x1 : Int32) (S : ZS) : Option (Int32 × ZS) :=
  m_bnd (x1 &&& (63 : Int32)) (fun v1 =>
  m_bnd (x1 >>> ((6 : Int32) &&& 31)) (fun v2 =>
  m_bnd (v2 &&& (63 : Int32)) (fun v3 =>
  m_bnd (x1 >>> ((12 : Int32) &&& 31)) (fun v4 =>
  m_bnd (v4 &&& (7 : Int32)) (fun v5 =>
  m_chk (zK S x0 = 0) (
  m_cal (f_X0_kindAt x0 v1 S) (fun o6 =>
  m_if (o6.1 = (1 : Int32)) (
  f_X0_play_36 x0 v1 v3 v5 (1 : Int32) o6.2
  ) (
  f_X0_play_36 x0 v1 v3 v5 (0 : Int32) o6.2
  ))))))))
def f_X0_play (x0 : Nat) (x1 : Int32) (S : ZS) : Option (Int32 × ZS) := f_X0_play_0 x0 x1 S
def f_X6_init_0 (x0 : Nat) (S : ZS) : Option (Int32 × ZS) :=
  m_chk (zK S x0 = 6) (
  m_bnd (zsP S 0 x0 (some (zc S))) (fun S1 =>
  m_chk (zK S1 x0 = 6) (
  m_bnd (zsI S1 1 x0 (0 : Int32)) (fun S2 =>
  some (0, S2)))))
def f_X6_init (x0 : Nat) (S : ZS) : Option (Int32 × ZS) := f_X6_init_0 x0 S
def f_X6_keep_17 (S : ZS) : Option (Int32 × ZS) :=
  some (0, S)
def f_X6_keep_0 (x0 : Nat) (x1 : Int32) (S : ZS) : Option (Int32 × ZS) :=
  m_if (x1 < 0) (
  f_X6_keep_17  S
  ) (
  m_chk (zK S x0 = 6) (
  m_if ((zI S 1 x0) ≤ x1) (
  f_X6_keep_17  S
  ) (
  m_chk (zK S x0 = 6) (
  m_bnd (zsI S 1 x0 x1) (fun S1 =>
  f_X6_keep_17  S1))
  ))
  )
def f_X6_keep (x0 : Nat) (x1 : Int32) (S : ZS) : Option (Int32 × ZS) := f_X6_keep_0 x0 x1 S
def f_X4_become_0 (x0 : Nat) (x1 : Int32) (x2 : Int32) (S : ZS) : Option (Int32 × ZS) :=
  m_chk (zK S x0 = 4) (
  m_bnd (zsI S 0 x0 x1) (fun S1 =>
  m_chk (zK S1 x0 = 4) (
  m_bnd (zsI S1 1 x0 x2) (fun S2 =>
  m_chk (zK S2 x0 = 4) (
  m_bnd (zsI S2 2 x0 (-1 : Int32)) (fun S3 =>
  m_chk (zK S3 x0 = 4) (
  m_bnd (zsI S3 3 x0 (-1 : Int32)) (fun S4 =>
  m_chk (zK S4 x0 = 4) (
  m_bnd (zsI S4 4 x0 (0 : Int32)) (fun S5 =>
  m_chk (zK S5 x0 = 4) (
  m_bnd (zsI S5 5 x0 (0 : Int32)) (fun S6 =>
  m_chk (zK S6 x0 = 4) (
  m_cal (zP S6 6 x0) (fun b7 =>
  m_chk (zK S6 b7 = 6) (
  m_cal (f_X6_keep b7 (0 : Int32) S6) (fun o8 =>
  some (0, o8.2)))))))))))))))))
def f_X4_become (x0 : Nat) (x1 : Int32) (x2 : Int32) (S : ZS) : Option (Int32 × ZS) := f_X4_become_0 x0 x1 x2 S
def f_X1_wipe_0 (x0 : Nat) (S : ZS) : Option (Int32 × ZS) :=
  m_chk (zK S x0 = 1) (
  m_cal (zP S 0 x0) (fun b1 =>
  m_chk (zK S b1 = 0) (
  m_cal (f_X0_setUp b1 S) (fun o2 =>
  m_chk (zK o2.2 x0 = 1) (
  m_cal (zP o2.2 1 x0) (fun b3 =>
  m_chk (zK o2.2 b3 = 4) (
  m_cal (f_X4_become b3 (-1 : Int32) (-1 : Int32) o2.2) (fun o4 =>
  m_chk (zK o4.2 x0 = 1) (
  m_bnd (zsI o4.2 3 x0 (0 : Int32)) (fun S5 =>
  m_chk (zK S5 x0 = 1) (
  m_bnd (zsI S5 5 x0 (0 : Int32)) (fun S6 =>
  m_chk (zK S6 x0 = 1) (
  m_bnd (zsI S6 6 x0 (0 : Int32)) (fun S7 =>
  some (0, S7)))))))))))))))
def f_X1_wipe (x0 : Nat) (S : ZS) : Option (Int32 × ZS) := f_X1_wipe_0 x0 S
def f_X1_has_17 (t0 : Int32) (S : ZS) : Option (Int32 × ZS) :=
  m_chk (vp_nar .boolean t0 = t0) (some (t0, S))
def f_X1_has_16 (S : ZS) : Option (Int32 × ZS) :=
  f_X1_has_17 (0 : Int32) S
def f_X1_has_0 (x0 : Nat) (x1 : Int32) (S : ZS) : Option (Int32 × ZS) :=
  m_if (x1 < 0) (
  f_X1_has_16  S
  ) (
  m_chk (zK S x0 = 1) (
  m_if ((zI S 3 x0) < x1) (
  f_X1_has_16  S
  ) (
  f_X1_has_17 (1 : Int32) S
  ))
  )
def f_X1_has (x0 : Nat) (x1 : Int32) (S : ZS) : Option (Int32 × ZS) := f_X1_has_0 x0 x1 S
def f_X1_at_35 (t0 : Option Nat) (S : ZS) : Option (Nat × ZS) :=
  m_cal t0 (fun b1 => some (b1, S))
def f_X1_at_22 (x0 : Nat) (t0 : Option Nat) (S : ZS) : Option (Nat × ZS) :=
  m_opt t0 (
  m_chk (zK S x0 = 1) (
  m_cal (zP S 1 x0) (fun b2 =>
  f_X1_at_35 (some b2) S))
  ) (fun b1 =>
  f_X1_at_35 (some b1) S
  )
def f_X1_at_21 (x0 : Nat) (S : ZS) : Option (Nat × ZS) :=
  f_X1_at_22 x0 none S
def f_X1_at_0 (x0 : Nat) (x1 : Int32) (S : ZS) : Option (Nat × ZS) :=
  m_if (x1 ≤ 0) (
  f_X1_at_21 x0 S
  ) (
  m_chk (zK S x0 = 1) (
  m_if ((zI S 3 x0) < x1) (
  f_X1_at_21 x0 S
  ) (
  m_chk (zK S x0 = 1) (
  m_cal (zP S 2 x0) (fun b1 =>
  m_chk (zK S b1 = 16) (
  m_chk (¬ (x1 < 0 ∨ zN S b1 ≤ (x1).toNatClampNeg)) (
  m_bnd (zB S b1 (x1).toNatClampNeg) (fun v2 =>
  f_X1_at_22 x0 v2 S)))))
  ))
  )
def f_X1_at (x0 : Nat) (x1 : Int32) (S : ZS) : Option (Nat × ZS) := f_X1_at_0 x0 x1 S
def f_X1_childWith_52 (x3 : Int32) (S : ZS) : Option (Int32 × ZS) :=
  some (x3, S)
def f_X1_childWith_12s (self12 : Nat → Int32 → Int32 → Int32 → ZS → Option (Int32 × ZS)) (x0 : Nat) (x2 : Int32) (x3 : Int32) (x4 : Int32) (S : ZS) : Option (Int32 × ZS) :=
  m_if ((300 : Int32) ≤ x4) (
  f_X1_childWith_52 x3 S
  ) (
  m_if (x3 = (-1 : Int32)) (
  f_X1_childWith_52 x3 S
  ) (
  m_chk (zK S x0 = 1) (
  m_cal (f_X1_at x0 x3 S) (fun o1 =>
  m_chk (zK o1.2 o1.1 = 4) (
  m_if ((zI o1.2 1 o1.1) = x2) (
  f_X1_childWith_52 x3 o1.2
  ) (
  m_chk (zK o1.2 x0 = 1) (
  m_cal (f_X1_at x0 x3 o1.2) (fun o2 =>
  m_chk (zK o2.2 o2.1 = 4) (
  m_bnd (x4 + (1 : Int32)) (fun v3 =>
  self12 x0 x2 (zI o2.2 3 o2.1) v3 o2.2))))
  ))))
  )
  )
def f_X1_childWith_12 : Nat → Nat → Int32 → Int32 → Int32 → ZS → Option (Int32 × ZS)
  | 0 => fun _ _ _ _ _ => none
  | n + 1 => f_X1_childWith_12s (f_X1_childWith_12 n)
def f_X1_childWith_0 (x0 : Nat) (x1 : Int32) (x2 : Int32) (S : ZS) : Option (Int32 × ZS) :=
  m_chk (zK S x0 = 1) (
  m_cal (f_X1_at x0 x1 S) (fun o1 =>
  m_chk (zK o1.2 o1.1 = 4) (
  f_X1_childWith_12 mFuel x0 x2 (zI o1.2 2 o1.1) (0 : Int32) o1.2)))
def f_X1_childWith (x0 : Nat) (x1 : Int32) (x2 : Int32) (S : ZS) : Option (Int32 × ZS) := f_X1_childWith_0 x0 x1 x2 S
def f_X1_goesOn_24 (t0 : Int32) (S : ZS) : Option (Int32 × ZS) :=
  m_chk (vp_nar .boolean t0 = t0) (some (t0, S))
def f_X1_goesOn_0 (x0 : Nat) (x1 : Int32) (S : ZS) : Option (Int32 × ZS) :=
  m_chk (zK S x0 = 1) (
  m_cal (f_X1_at x0 x1 S) (fun o1 =>
  m_chk (zK o1.2 o1.1 = 4) (
  m_chk (zK o1.2 x0 = 1) (
  m_cal (f_X1_at x0 (zI o1.2 0 o1.1) o1.2) (fun o2 =>
  m_chk (zK o2.2 o2.1 = 4) (
  m_if ((zI o2.2 2 o2.1) = x1) (
  f_X1_goesOn_24 (1 : Int32) o2.2
  ) (
  f_X1_goesOn_24 (0 : Int32) o2.2
  )))))))
def f_X1_goesOn (x0 : Nat) (x1 : Int32) (S : ZS) : Option (Int32 × ZS) := f_X1_goesOn_0 x0 x1 S
def f_X1_deepOfNext_66 (x2 : Int32) (S : ZS) : Option (Int32 × ZS) :=
  some (x2, S)
def f_X1_deepOfNext_49 (self23 : Nat → Int32 → Int32 → Int32 → ZS → Option (Int32 × ZS)) (x0 : Nat) (x3 : Int32) (x4 : Int32) (t0 : Int32) (t1 : Int32) (S : ZS) : Option (Int32 × ZS) :=
  m_bnd (t1 + t0) (fun v1 =>
  m_chk (zK S x0 = 1) (
  m_cal (f_X1_at x0 x3 S) (fun o2 =>
  m_chk (zK o2.2 o2.1 = 4) (
  m_bnd (x4 + (1 : Int32)) (fun v3 =>
  self23 x0 v1 (zI o2.2 0 o2.1) v3 o2.2)))))
def f_X1_deepOfNext_23s (self23 : Nat → Int32 → Int32 → Int32 → ZS → Option (Int32 × ZS)) (x0 : Nat) (x2 : Int32) (x3 : Int32) (x4 : Int32) (S : ZS) : Option (Int32 × ZS) :=
  m_if ((300 : Int32) ≤ x4) (
  f_X1_deepOfNext_66 x2 S
  ) (
  m_if (x3 ≤ 0) (
  f_X1_deepOfNext_66 x2 S
  ) (
  m_chk (zK S x0 = 1) (
  m_cal (f_X1_goesOn x0 x3 S) (fun o1 =>
  m_if (o1.1 = 0) (
  f_X1_deepOfNext_49 self23 x0 x3 x4 (1 : Int32) x2 o1.2
  ) (
  f_X1_deepOfNext_49 self23 x0 x3 x4 (0 : Int32) x2 o1.2
  )))
  )
  )
def f_X1_deepOfNext_23 : Nat → Nat → Int32 → Int32 → Int32 → ZS → Option (Int32 × ZS)
  | 0 => fun _ _ _ _ _ => none
  | n + 1 => f_X1_deepOfNext_23s (f_X1_deepOfNext_23 n)
def f_X1_deepOfNext_17 (x0 : Nat) (x1 : Int32) (t0 : Int32) (S : ZS) : Option (Int32 × ZS) :=
  f_X1_deepOfNext_23 mFuel x0 t0 x1 (0 : Int32) S
def f_X1_deepOfNext_0 (x0 : Nat) (x1 : Int32) (S : ZS) : Option (Int32 × ZS) :=
  m_chk (zK S x0 = 1) (
  m_cal (f_X1_at x0 x1 S) (fun o1 =>
  m_chk (zK o1.2 o1.1 = 4) (
  m_if ((zI o1.2 2 o1.1) = (-1 : Int32)) (
  f_X1_deepOfNext_17 x0 x1 (0 : Int32) o1.2
  ) (
  f_X1_deepOfNext_17 x0 x1 (1 : Int32) o1.2
  ))))
def f_X1_deepOfNext (x0 : Nat) (x1 : Int32) (S : ZS) : Option (Int32 × ZS) := f_X1_deepOfNext_0 x0 x1 S
def f_X1_mayLead_89 (self11 : Nat → Int32 → Nat → Int32 → ZS → Option (Int32 × ZS)) (x0 : Nat) (x1 : Int32) (x2 : Nat) (x3 : Int32) (t0 : Int32) (t1 : Int32) (t2 : Int32) (t3 : Nat) (S : ZS) : Option (Int32 × ZS) :=
  m_bnd (t1 + t0) (fun v1 =>
  m_chk (zK S t3 = 14) (
  m_chk (¬ (t2 < 0 ∨ zN S t3 ≤ (t2).toNatClampNeg)) (
  m_bnd (zsA S t3 (t2).toNatClampNeg v1) (fun S2 =>
  m_chk (zK S2 x2 = 14) (
  m_chk (¬ (x3 < 0 ∨ zN S2 x2 ≤ (x3).toNatClampNeg)) (
  m_bnd (zA S2 x2 (x3).toNatClampNeg) (fun v3 =>
  m_if (v3 ≤ (6 : Int32)) (
  m_bnd (x3 + (1 : Int32)) (fun v4 =>
  self11 x0 x1 x2 v4 S2)
  ) (
  m_chk (vp_nar .boolean (0 : Int32) = (0 : Int32)) (some ((0 : Int32), S2))
  ))))))))
def f_X1_mayLead_78 (self11 : Nat → Int32 → Nat → Int32 → ZS → Option (Int32 × ZS)) (x0 : Nat) (x1 : Int32) (x2 : Nat) (x3 : Int32) (x5 : Int32) (t0 : Int32) (t1 : Int32) (t2 : Nat) (S : ZS) : Option (Int32 × ZS) :=
  m_if (x3 = x5) (
  f_X1_mayLead_89 self11 x0 x1 x2 x3 (0 : Int32) t0 t1 t2 S
  ) (
  f_X1_mayLead_89 self11 x0 x1 x2 x3 (1 : Int32) t0 t1 t2 S
  )
def f_X1_mayLead_77 (self11 : Nat → Int32 → Nat → Int32 → ZS → Option (Int32 × ZS)) (x0 : Nat) (x1 : Int32) (x2 : Nat) (x3 : Int32) (x5 : Int32) (t0 : Int32) (t1 : Nat) (S : ZS) : Option (Int32 × ZS) :=
  f_X1_mayLead_78 self11 x0 x1 x2 x3 x5 (0 : Int32) t0 t1 S
def f_X1_mayLead_55 (self11 : Nat → Int32 → Nat → Int32 → ZS → Option (Int32 × ZS)) (x0 : Nat) (x1 : Int32) (x2 : Nat) (x3 : Int32) (x4 : Int32) (t0 : Int32) (S : ZS) : Option (Int32 × ZS) :=
  m_if (x4 < 0) (
  f_X1_mayLead_77 self11 x0 x1 x2 x3 t0 x3 x2 S
  ) (
  m_if (x3 ≤ x4) (
  f_X1_mayLead_77 self11 x0 x1 x2 x3 t0 x3 x2 S
  ) (
  m_chk (zK S x2 = 14) (
  m_chk (¬ (x4 < 0 ∨ zN S x2 ≤ (x4).toNatClampNeg)) (
  m_bnd (zA S x2 (x4).toNatClampNeg) (fun v1 =>
  f_X1_mayLead_78 self11 x0 x1 x2 x3 t0 v1 x3 x2 S)))
  )
  )
def f_X1_mayLead_11s (self11 : Nat → Int32 → Nat → Int32 → ZS → Option (Int32 × ZS)) (x0 : Nat) (x1 : Int32) (x2 : Nat) (x3 : Int32) (S : ZS) : Option (Int32 × ZS) :=
  m_chk (zK S x0 = 1) (
  m_if ((zI S 3 x0) < x3) (
  m_chk (vp_nar .boolean (1 : Int32) = (1 : Int32)) (some ((1 : Int32), S))
  ) (
  m_chk (zK S x0 = 1) (
  m_cal (f_X1_at x0 x3 S) (fun o1 =>
  m_chk (zK o1.2 o1.1 = 4) (
  m_chk (zK o1.2 x0 = 1) (
  m_cal (f_X1_at x0 x1 o1.2) (fun o2 =>
  m_chk (zK o2.2 o2.1 = 4) (
  m_if ((zI o1.2 0 o1.1) = (zI o2.2 0 o2.1)) (
  f_X1_mayLead_55 self11 x0 x1 x2 x3 (zI o1.2 0 o1.1) x1 o2.2
  ) (
  m_chk (zK o2.2 x0 = 1) (
  m_cal (f_X1_at x0 (zI o1.2 0 o1.1) o2.2) (fun o3 =>
  m_chk (zK o3.2 o3.1 = 4) (
  f_X1_mayLead_55 self11 x0 x1 x2 x3 (zI o1.2 0 o1.1) (zI o3.2 2 o3.1) o3.2)))
  )))))))
  ))
def f_X1_mayLead_11 : Nat → Nat → Int32 → Nat → Int32 → ZS → Option (Int32 × ZS)
  | 0 => fun _ _ _ _ _ => none
  | n + 1 => f_X1_mayLead_11s (f_X1_mayLead_11 n)
def f_X1_mayLead_0 (x0 : Nat) (x1 : Int32) (S : ZS) : Option (Int32 × ZS) :=
  m_chk (zK S x0 = 1) (
  m_cal (zP S 7 x0) (fun b1 =>
  m_chk (zK S b1 = 14) (
  m_chk (¬ ((0 : Int32) < 0 ∨ zN S b1 ≤ ((0 : Int32)).toNatClampNeg)) (
  m_bnd (zsA S b1 ((0 : Int32)).toNatClampNeg (0 : Int32)) (fun S2 =>
  f_X1_mayLead_11 mFuel x0 x1 b1 (1 : Int32) S2)))))
def f_X1_mayLead (x0 : Nat) (x1 : Int32) (S : ZS) : Option (Int32 × ZS) := f_X1_mayLead_0 x0 x1 S
def f_X1_putFirst_56 (x0 : Nat) (x1 : Int32) (x2 : Nat) (x3 : Int32) (S : ZS) : Option (Int32 × ZS) :=
  m_chk (zK S x0 = 1) (
  m_cal (f_X1_at x0 x3 S) (fun o1 =>
  m_chk (zK o1.2 x0 = 1) (
  m_cal (f_X1_at x0 x1 o1.2) (fun o2 =>
  m_chk (zK o2.2 o2.1 = 4) (
  m_chk (zK o2.2 o1.1 = 4) (
  m_bnd (zsI o2.2 3 o1.1 (zI o2.2 3 o2.1)) (fun S3 =>
  m_chk (zK S3 x0 = 1) (
  m_cal (f_X1_at x0 x1 S3) (fun o4 =>
  m_chk (zK o4.2 x2 = 4) (
  m_chk (zK o4.2 o4.1 = 4) (
  m_bnd (zsI o4.2 3 o4.1 (zI o4.2 2 x2)) (fun S5 =>
  m_chk (zK S5 x2 = 4) (
  m_bnd (zsI S5 2 x2 x1) (fun S6 =>
  some (0, S6)))))))))))))))
def f_X1_putFirst_21s (self21 : Nat → Int32 → Nat → Int32 → Int32 → ZS → Option (Int32 × ZS)) (x0 : Nat) (x1 : Int32) (x2 : Nat) (x3 : Int32) (x4 : Int32) (S : ZS) : Option (Int32 × ZS) :=
  m_if ((300 : Int32) ≤ x4) (
  f_X1_putFirst_56 x0 x1 x2 x3 S
  ) (
  m_chk (zK S x0 = 1) (
  m_cal (f_X1_at x0 x3 S) (fun o1 =>
  m_chk (zK o1.2 o1.1 = 4) (
  m_if ((zI o1.2 3 o1.1) = x1) (
  f_X1_putFirst_56 x0 x1 x2 x3 o1.2
  ) (
  m_chk (zK o1.2 x0 = 1) (
  m_cal (f_X1_at x0 x3 o1.2) (fun o2 =>
  m_chk (zK o2.2 o2.1 = 4) (
  m_bnd (x4 + (1 : Int32)) (fun v3 =>
  self21 x0 x1 x2 (zI o2.2 3 o2.1) v3 o2.2))))
  ))))
  )
def f_X1_putFirst_21 : Nat → Nat → Int32 → Nat → Int32 → Int32 → ZS → Option (Int32 × ZS)
  | 0 => fun _ _ _ _ _ _ => none
  | n + 1 => f_X1_putFirst_21s (f_X1_putFirst_21 n)
def f_X1_putFirst_0 (x0 : Nat) (x1 : Int32) (S : ZS) : Option (Int32 × ZS) :=
  m_chk (zK S x0 = 1) (
  m_cal (f_X1_at x0 x1 S) (fun o1 =>
  m_chk (zK o1.2 o1.1 = 4) (
  m_chk (zK o1.2 x0 = 1) (
  m_cal (f_X1_at x0 (zI o1.2 0 o1.1) o1.2) (fun o2 =>
  m_chk (zK o2.2 o2.1 = 4) (
  f_X1_putFirst_21 mFuel x0 x1 o2.1 (zI o2.2 2 o2.1) (0 : Int32) o2.2))))))
def f_X1_putFirst (x0 : Nat) (x1 : Int32) (S : ZS) : Option (Int32 × ZS) := f_X1_putFirst_0 x0 x1 S
def f_X1_standAt_68s (self68 : Nat → Nat → Int32 → ZS → Option (Int32 × ZS)) (x2 : Nat) (x3 : Nat) (x5 : Int32) (S : ZS) : Option (Int32 × ZS) :=
  m_if (x5 < 0) (
  some (0, S)
  ) (
  m_chk (zK S x3 = 14) (
  m_chk (¬ (x5 < 0 ∨ zN S x3 ≤ (x5).toNatClampNeg)) (
  m_bnd (zA S x3 (x5).toNatClampNeg) (fun v1 =>
  m_chk (zK S x2 = 0) (
  m_cal (f_X0_play x2 v1 S) (fun o2 =>
  m_bnd (x5 + (-1 : Int32)) (fun v3 =>
  self68 x2 x3 v3 o2.2))))))
  )
def f_X1_standAt_68 : Nat → Nat → Nat → Int32 → ZS → Option (Int32 × ZS)
  | 0 => fun _ _ _ _ => none
  | n + 1 => f_X1_standAt_68s (f_X1_standAt_68 n)
def f_X1_standAt_54 (x0 : Nat) (x2 : Nat) (x3 : Nat) (x4 : Int32) (S : ZS) : Option (Int32 × ZS) :=
  m_chk (zK S x0 = 1) (
  m_cal (zP S 0 x0) (fun b1 =>
  m_chk (zK S x2 = 0) (
  m_cal (f_X0_copyFrom x2 b1 S) (fun o2 =>
  m_bnd (x4 - (1 : Int32)) (fun v3 =>
  f_X1_standAt_68 mFuel x2 x3 v3 o2.2)))))
def f_X1_standAt_11s (self11 : Nat → Nat → Nat → Int32 → Int32 → ZS → Option (Int32 × ZS)) (x0 : Nat) (x2 : Nat) (x3 : Nat) (x4 : Int32) (x5 : Int32) (S : ZS) : Option (Int32 × ZS) :=
  m_if (x5 ≤ 0) (
  f_X1_standAt_54 x0 x2 x3 x4 S
  ) (
  m_if ((300 : Int32) ≤ x4) (
  f_X1_standAt_54 x0 x2 x3 x4 S
  ) (
  m_chk (zK S x0 = 1) (
  m_cal (f_X1_at x0 x5 S) (fun o1 =>
  m_chk (zK o1.2 o1.1 = 4) (
  m_chk (zK o1.2 x3 = 14) (
  m_chk (¬ (x4 < 0 ∨ zN o1.2 x3 ≤ (x4).toNatClampNeg)) (
  m_bnd (zsA o1.2 x3 (x4).toNatClampNeg (zI o1.2 1 o1.1)) (fun S2 =>
  m_bnd (x4 + (1 : Int32)) (fun v3 =>
  m_chk (zK S2 x0 = 1) (
  m_cal (f_X1_at x0 x5 S2) (fun o4 =>
  m_chk (zK o4.2 o4.1 = 4) (
  self11 x0 x2 x3 v3 (zI o4.2 0 o4.1) o4.2))))))))))
  )
  )
def f_X1_standAt_11 : Nat → Nat → Nat → Nat → Int32 → Int32 → ZS → Option (Int32 × ZS)
  | 0 => fun _ _ _ _ _ _ => none
  | n + 1 => f_X1_standAt_11s (f_X1_standAt_11 n)
def f_X1_standAt_0 (x0 : Nat) (x1 : Int32) (x2 : Nat) (S : ZS) : Option (Int32 × ZS) :=
  m_chk (zK S x0 = 1) (
  m_cal (zP S 7 x0) (fun b1 =>
  f_X1_standAt_11 mFuel x0 x2 b1 (0 : Int32) x1 S))
def f_X1_standAt (x0 : Nat) (x1 : Int32) (x2 : Nat) (S : ZS) : Option (Int32 × ZS) := f_X1_standAt_0 x0 x1 x2 S
def f_X6_at_22 (t0 : Int32) (S : ZS) : Option (Int32 × ZS) :=
  m_chk (vp_nar .char t0 = t0) (some (t0, S))
def f_X6_at_21 (S : ZS) : Option (Int32 × ZS) :=
  f_X6_at_22 (0 : Int32) S
def f_X6_at_0 (x0 : Nat) (x1 : Int32) (S : ZS) : Option (Int32 × ZS) :=
  m_if (x1 < 0) (
  f_X6_at_21  S
  ) (
  m_chk (zK S x0 = 6) (
  m_if ((zI S 1 x0) ≤ x1) (
  f_X6_at_21  S
  ) (
  m_chk (zK S x0 = 6) (
  m_cal (zP S 0 x0) (fun b1 =>
  m_chk (zK S b1 = 13) (
  m_chk (¬ (x1 < 0 ∨ zN S b1 ≤ (x1).toNatClampNeg)) (
  m_bnd (zA S b1 (x1).toNatClampNeg) (fun v2 =>
  f_X6_at_22 v2 S)))))
  ))
  )
def f_X6_at (x0 : Nat) (x1 : Int32) (S : ZS) : Option (Int32 × ZS) := f_X6_at_0 x0 x1 S
def f_X6_isLike_15s (self15 : Nat → Nat → Int32 → ZS → Option (Int32 × ZS)) (x0 : Nat) (x1 : Nat) (x2 : Int32) (S : ZS) : Option (Int32 × ZS) :=
  m_chk (zK S x0 = 6) (
  m_if ((zI S 1 x0) ≤ x2) (
  m_chk (vp_nar .boolean (1 : Int32) = (1 : Int32)) (some ((1 : Int32), S))
  ) (
  m_chk (zK S x0 = 6) (
  m_cal (zP S 0 x0) (fun b1 =>
  m_chk (zK S b1 = 13) (
  m_chk (¬ (x2 < 0 ∨ zN S b1 ≤ (x2).toNatClampNeg)) (
  m_bnd (zA S b1 (x2).toNatClampNeg) (fun v2 =>
  m_chk (zK S x1 = 6) (
  m_cal (f_X6_at x1 x2 S) (fun o3 =>
  m_if (v2 = o3.1) (
  m_bnd (x2 + (1 : Int32)) (fun v4 =>
  self15 x0 x1 v4 o3.2)
  ) (
  m_chk (vp_nar .boolean (0 : Int32) = (0 : Int32)) (some ((0 : Int32), o3.2))
  ))))))))
  ))
def f_X6_isLike_15 : Nat → Nat → Nat → Int32 → ZS → Option (Int32 × ZS)
  | 0 => fun _ _ _ _ => none
  | n + 1 => f_X6_isLike_15s (f_X6_isLike_15 n)
def f_X6_isLike_0 (x0 : Nat) (x1 : Nat) (S : ZS) : Option (Int32 × ZS) :=
  m_chk (zK S x0 = 6) (
  m_chk (zK S x1 = 6) (
  m_if ((zI S 1 x0) = (zI S 1 x1)) (
  f_X6_isLike_15 mFuel x0 x1 (0 : Int32) S
  ) (
  m_chk (vp_nar .boolean (0 : Int32) = (0 : Int32)) (some ((0 : Int32), S))
  )))
def f_X6_isLike (x0 : Nat) (x1 : Nat) (S : ZS) : Option (Int32 × ZS) := f_X6_isLike_0 x0 x1 S
def f_J0_coder_7d493_14 (t0 : Int32) (S : ZS) : Option (Int32 × ZS) :=
  m_chk (vp_nar .byte t0 = t0) (some (t0, S))
def f_J0_coder_7d493_0 (x0 : Nat) (S : ZS) : Option (Int32 × ZS) :=
  m_if ((1 : Int32) = 0) (
  f_J0_coder_7d493_14 (1 : Int32) S
  ) (
  m_chk (x0 < zSn) (
  f_J0_coder_7d493_14 (0 : Int32) S)
  )
def f_J0_coder_7d493 (x0 : Nat) (S : ZS) : Option (Int32 × ZS) := f_J0_coder_7d493_0 x0 S
def f_J0_length_8abf5_0 (x0 : Nat) (S : ZS) : Option (Int32 × ZS) :=
  m_chk (x0 < zSn) (
  m_chk (x0 < zSn) (
  m_bnd (Int32.ofNat (zSl.getD x0 0)) (fun v1 =>
  m_chk (x0 < zSn) (
  m_cal (f_J0_coder_7d493 x0 S) (fun o2 =>
  m_bnd (v1 >>> (o2.1 &&& 31)) (fun v3 =>
  some (v3, o2.2)))))))
def f_J0_length_8abf5 (x0 : Nat) (S : ZS) : Option (Int32 × ZS) := f_J0_length_8abf5_0 x0 S
def f_J0_isLatin1_aae02_18 (t0 : Int32) (S : ZS) : Option (Int32 × ZS) :=
  m_chk (vp_nar .boolean t0 = t0) (some (t0, S))
def f_J0_isLatin1_aae02_17 (S : ZS) : Option (Int32 × ZS) :=
  f_J0_isLatin1_aae02_18 (0 : Int32) S
def f_J0_isLatin1_aae02_0 (x0 : Nat) (S : ZS) : Option (Int32 × ZS) :=
  m_if ((1 : Int32) = 0) (
  f_J0_isLatin1_aae02_17  S
  ) (
  m_chk (x0 < zSn) (
  m_if ((0 : Int32) = 0) (
  f_J0_isLatin1_aae02_18 (1 : Int32) S
  ) (
  f_J0_isLatin1_aae02_17  S
  ))
  )
def f_J0_isLatin1_aae02 (x0 : Nat) (S : ZS) : Option (Int32 × ZS) := f_J0_isLatin1_aae02_0 x0 S
def f_J3_checkIndex_8e157_0 (x0 : Int32) (x1 : Int32) (S : ZS) : Option (Int32 × ZS) :=
  m_if (x0 < 0) (
  none
  ) (
  m_if (x0 < x1) (
  some (x0, S)
  ) (
  none
  )
  )
def f_J3_checkIndex_8e157 (x0 : Int32) (x1 : Int32) (S : ZS) : Option (Int32 × ZS) := f_J3_checkIndex_8e157_0 x0 x1 S
def f_J0_checkIndex_df160_0 (x0 : Int32) (x1 : Int32) (S : ZS) : Option (Int32 × ZS) :=
  m_cal (f_J3_checkIndex_8e157 x0 x1 S) (fun o1 =>
  some (0, o1.2))
def f_J0_checkIndex_df160 (x0 : Int32) (x1 : Int32) (S : ZS) : Option (Int32 × ZS) := f_J0_checkIndex_df160_0 x0 x1 S
def f_J1_charAt_3b067_0 (x0 : Nat) (x1 : Int32) (S : ZS) : Option (Int32 × ZS) :=
  m_chk (x0 < zSn) (
  m_bnd (Int32.ofNat (zSl.getD x0 0)) (fun v1 =>
  m_cal (f_J0_checkIndex_df160 x1 v1 S) (fun o2 =>
  m_chk (x0 < zSn) (
  m_chk (¬ (x1 < 0 ∨ zSl.getD x0 0 ≤ (x1).toNatClampNeg)) (
  m_bnd ((zSb.getD x0 []).getD (x1).toNatClampNeg 0) (fun v3 =>
  m_bnd (v3 &&& (255 : Int32)) (fun v4 =>
  m_bnd ((v4.toUInt32 % 65536).toInt32) (fun v5 =>
  m_chk (vp_nar .char v5 = v5) (some (v5, o2.2))))))))))
def f_J1_charAt_3b067 (x0 : Nat) (x1 : Int32) (S : ZS) : Option (Int32 × ZS) := f_J1_charAt_3b067_0 x0 x1 S
def f_J0_charAt_5068e_0 (x0 : Nat) (x1 : Int32) (S : ZS) : Option (Int32 × ZS) :=
  m_chk (x0 < zSn) (
  m_cal (f_J0_isLatin1_aae02 x0 S) (fun o1 =>
  m_if (o1.1 = 0) (
  none
  ) (
  m_chk (x0 < zSn) (
  m_cal (f_J1_charAt_3b067 x0 x1 o1.2) (fun o2 =>
  m_chk (vp_nar .char o2.1 = o2.1) (some (o2.1, o2.2))))
  )))
def f_J0_charAt_5068e (x0 : Nat) (x1 : Int32) (S : ZS) : Option (Int32 × ZS) := f_J0_charAt_5068e_0 x0 x1 S
def f_X6_holds_17 (S : ZS) : Option (Int32 × ZS) :=
  m_chk (vp_nar .boolean (0 : Int32) = (0 : Int32)) (some ((0 : Int32), S))
def f_X6_holds_21s (self21 : Nat → Nat → Int32 → Int32 → ZS → Option (Int32 × ZS)) (x0 : Nat) (x1 : Nat) (x2 : Int32) (x3 : Int32) (S : ZS) : Option (Int32 × ZS) :=
  m_chk (x1 < zSn) (
  m_cal (f_J0_length_8abf5 x1 S) (fun o1 =>
  m_if (o1.1 ≤ x3) (
  m_chk (vp_nar .boolean (1 : Int32) = (1 : Int32)) (some ((1 : Int32), o1.2))
  ) (
  m_chk (zK o1.2 x0 = 6) (
  m_cal (zP o1.2 0 x0) (fun b2 =>
  m_bnd (x2 + x3) (fun v3 =>
  m_chk (zK o1.2 b2 = 13) (
  m_chk (¬ (v3 < 0 ∨ zN o1.2 b2 ≤ (v3).toNatClampNeg)) (
  m_bnd (zA o1.2 b2 (v3).toNatClampNeg) (fun v4 =>
  m_chk (x1 < zSn) (
  m_cal (f_J0_charAt_5068e x1 x3 o1.2) (fun o5 =>
  m_if (v4 = o5.1) (
  m_bnd (x3 + (1 : Int32)) (fun v6 =>
  self21 x0 x1 x2 v6 o5.2)
  ) (
  m_chk (vp_nar .boolean (0 : Int32) = (0 : Int32)) (some ((0 : Int32), o5.2))
  )))))))))
  )))
def f_X6_holds_21 : Nat → Nat → Nat → Int32 → Int32 → ZS → Option (Int32 × ZS)
  | 0 => fun _ _ _ _ _ => none
  | n + 1 => f_X6_holds_21s (f_X6_holds_21 n)
def f_X6_holds_0 (x0 : Nat) (x1 : Nat) (x2 : Int32) (S : ZS) : Option (Int32 × ZS) :=
  m_if (x2 < 0) (
  f_X6_holds_17  S
  ) (
  m_chk (x1 < zSn) (
  m_cal (f_J0_length_8abf5 x1 S) (fun o1 =>
  m_bnd (x2 + o1.1) (fun v2 =>
  m_chk (zK o1.2 x0 = 6) (
  m_if (v2 ≤ (zI o1.2 1 x0)) (
  f_X6_holds_21 mFuel x0 x1 x2 (0 : Int32) o1.2
  ) (
  f_X6_holds_17  o1.2
  )))))
  )
def f_X6_holds (x0 : Nat) (x1 : Nat) (x2 : Int32) (S : ZS) : Option (Int32 × ZS) := f_X6_holds_0 x0 x1 x2 S
def f_X6_is_25 (t0 : Int32) (S : ZS) : Option (Int32 × ZS) :=
  m_chk (vp_nar .boolean t0 = t0) (some (t0, S))
def f_X6_is_24 (S : ZS) : Option (Int32 × ZS) :=
  f_X6_is_25 (0 : Int32) S
def f_X6_is_0 (x0 : Nat) (x1 : Nat) (S : ZS) : Option (Int32 × ZS) :=
  m_chk (zK S x0 = 6) (
  m_chk (x1 < zSn) (
  m_cal (f_J0_length_8abf5 x1 S) (fun o1 =>
  m_if ((zI S 1 x0) = o1.1) (
  m_chk (zK o1.2 x0 = 6) (
  m_cal (f_X6_holds x0 x1 (0 : Int32) o1.2) (fun o2 =>
  m_if (o2.1 = 0) (
  f_X6_is_24  o2.2
  ) (
  f_X6_is_25 (1 : Int32) o2.2
  )))
  ) (
  f_X6_is_24  o1.2
  ))))
def f_X6_is (x0 : Nat) (x1 : Nat) (S : ZS) : Option (Int32 × ZS) := f_X6_is_0 x0 x1 S
def f_X11_resultSign_0 (x0 : Int32) (S : ZS) : Option (Nat × ZS) :=
  m_if (x0 = (1 : Int32)) (
  some (3, S)
  ) (
  m_if (x0 = (2 : Int32)) (
  some (4, S)
  ) (
  m_if (x0 = (3 : Int32)) (
  some (5, S)
  ) (
  some (6, S)
  )))
def f_X11_resultSign (x0 : Int32) (S : ZS) : Option (Nat × ZS) := f_X11_resultSign_0 x0 S
def f_X2_begin_0 (x0 : Nat) (x1 : Nat) (S : ZS) : Option (Int32 × ZS) :=
  m_chk (zK S x0 = 2) (
  m_bnd (zsP S 2 x0 (some x1)) (fun S1 =>
  m_chk (zK S1 x0 = 2) (
  m_cal (zP S1 3 x0) (fun b2 =>
  m_chk (zK S1 b2 = 1) (
  m_cal (f_X1_wipe b2 S1) (fun o3 =>
  m_chk (zK o3.2 x0 = 2) (
  m_bnd (zsI o3.2 4 x0 (0 : Int32)) (fun S4 =>
  m_chk (zK S4 x0 = 2) (
  m_bnd (zsI S4 5 x0 (0 : Int32)) (fun S5 =>
  some (0, S5)))))))))))
def f_X2_begin (x0 : Nat) (x1 : Nat) (S : ZS) : Option (Int32 × ZS) := f_X2_begin_0 x0 x1 S
def f_X2_fault_0 (x0 : Nat) (S : ZS) : Option (Int32 × ZS) :=
  m_chk (zK S x0 = 2) (
  some ((zI S 5 x0), S))
def f_X2_fault (x0 : Nat) (S : ZS) : Option (Int32 × ZS) := f_X2_fault_0 x0 S
def f_X2_exchange_0 (x0 : Nat) (x1 : Nat) (S : ZS) : Option (Nat × ZS) :=
  m_chk (zK S x0 = 2) (
  m_cal (zP S 3 x0) (fun b1 =>
  m_chk (zK S x0 = 2) (
  m_bnd (zsP S 3 x0 (some x1)) (fun S2 =>
  some (b1, S2)))))
def f_X2_exchange (x0 : Nat) (x1 : Nat) (S : ZS) : Option (Nat × ZS) := f_X2_exchange_0 x0 x1 S
def f_X2_refuse_0 (x0 : Nat) (x1 : Int32) (x2 : Int32) (S : ZS) : Option (Int32 × ZS) :=
  m_bnd ((10000 : Int32) * x1) (fun v1 =>
  m_bnd (v1 + x2) (fun v2 =>
  m_chk (zK S x0 = 2) (
  m_bnd (zsI S 5 x0 v2) (fun S3 =>
  m_chk (vp_nar .boolean (0 : Int32) = (0 : Int32)) (some ((0 : Int32), S3))))))
def f_X2_refuse (x0 : Nat) (x1 : Int32) (x2 : Int32) (S : ZS) : Option (Int32 × ZS) := f_X2_refuse_0 x0 x1 x2 S
def f_X6_size_0 (x0 : Nat) (S : ZS) : Option (Int32 × ZS) :=
  m_chk (zK S x0 = 6) (
  some ((zI S 1 x0), S))
def f_X6_size (x0 : Nat) (S : ZS) : Option (Int32 × ZS) := f_X6_size_0 x0 S
def f_X2_skipBlanks_59 (S : ZS) : Option (Int32 × ZS) :=
  some (0, S)
def f_X2_skipBlanks_46 (self0 : Nat → ZS → Option (Int32 × ZS)) (x0 : Nat) (S : ZS) : Option (Int32 × ZS) :=
  m_chk (zK S x0 = 2) (
  m_bnd ((zI S 4 x0) + (1 : Int32)) (fun v1 =>
  m_chk (zK S x0 = 2) (
  m_bnd (zsI S 4 x0 v1) (fun S2 =>
  self0 x0 S2))))
def f_X2_skipBlanks_0s (self0 : Nat → ZS → Option (Int32 × ZS)) (x0 : Nat) (S : ZS) : Option (Int32 × ZS) :=
  m_chk (zK S x0 = 2) (
  m_chk (zK S x0 = 2) (
  m_cal (zP S 2 x0) (fun b1 =>
  m_chk (zK S b1 = 6) (
  m_cal (f_X6_size b1 S) (fun o2 =>
  m_if (o2.1 ≤ (zI S 4 x0)) (
  f_X2_skipBlanks_59  o2.2
  ) (
  m_chk (zK o2.2 x0 = 2) (
  m_cal (zP o2.2 2 x0) (fun b3 =>
  m_chk (zK o2.2 x0 = 2) (
  m_chk (zK o2.2 b3 = 6) (
  m_cal (f_X6_at b3 (zI o2.2 4 x0) o2.2) (fun o4 =>
  m_if (o4.1 = (32 : Int32)) (
  f_X2_skipBlanks_46 self0 x0 o4.2
  ) (
  m_chk (zK o4.2 x0 = 2) (
  m_cal (zP o4.2 2 x0) (fun b5 =>
  m_chk (zK o4.2 x0 = 2) (
  m_chk (zK o4.2 b5 = 6) (
  m_cal (f_X6_at b5 (zI o4.2 4 x0) o4.2) (fun o6 =>
  m_if (o6.1 = (10 : Int32)) (
  f_X2_skipBlanks_46 self0 x0 o6.2
  ) (
  f_X2_skipBlanks_59  o6.2
  ))))))
  ))))))
  ))))))
def f_X2_skipBlanks_0 : Nat → Nat → ZS → Option (Int32 × ZS)
  | 0 => fun _ _ => none
  | n + 1 => f_X2_skipBlanks_0s (f_X2_skipBlanks_0 n)
def f_X2_skipBlanks (x0 : Nat) (S : ZS) : Option (Int32 × ZS) := f_X2_skipBlanks_0 mFuel x0 S
def f_X11_isLetter_29 (t0 : Int32) (S : ZS) : Option (Int32 × ZS) :=
  m_chk (vp_nar .boolean t0 = t0) (some (t0, S))
def f_X11_isLetter_28 (S : ZS) : Option (Int32 × ZS) :=
  f_X11_isLetter_29 (0 : Int32) S
def f_X11_isLetter_24 (S : ZS) : Option (Int32 × ZS) :=
  f_X11_isLetter_29 (1 : Int32) S
def f_X11_isLetter_12 (x0 : Int32) (S : ZS) : Option (Int32 × ZS) :=
  m_if (x0 < (65 : Int32)) (
  f_X11_isLetter_28  S
  ) (
  m_if ((90 : Int32) < x0) (
  f_X11_isLetter_28  S
  ) (
  f_X11_isLetter_24  S
  )
  )
def f_X11_isLetter_0 (x0 : Int32) (S : ZS) : Option (Int32 × ZS) :=
  m_if (x0 < (97 : Int32)) (
  f_X11_isLetter_12 x0 S
  ) (
  m_if (x0 ≤ (122 : Int32)) (
  f_X11_isLetter_24  S
  ) (
  f_X11_isLetter_12 x0 S
  )
  )
def f_X11_isLetter (x0 : Int32) (S : ZS) : Option (Int32 × ZS) := f_X11_isLetter_0 x0 S
def f_X11_isDigit_17 (t0 : Int32) (S : ZS) : Option (Int32 × ZS) :=
  m_chk (vp_nar .boolean t0 = t0) (some (t0, S))
def f_X11_isDigit_16 (S : ZS) : Option (Int32 × ZS) :=
  f_X11_isDigit_17 (0 : Int32) S
def f_X11_isDigit_0 (x0 : Int32) (S : ZS) : Option (Int32 × ZS) :=
  m_if (x0 < (48 : Int32)) (
  f_X11_isDigit_16  S
  ) (
  m_if ((57 : Int32) < x0) (
  f_X11_isDigit_16  S
  ) (
  f_X11_isDigit_17 (1 : Int32) S
  )
  )
def f_X11_isDigit (x0 : Int32) (S : ZS) : Option (Int32 × ZS) := f_X11_isDigit_0 x0 S
def f_X5_skip_0 (x0 : Nat) (x1 : Int32) (S : ZS) : Option (Int32 × ZS) :=
  m_chk (zK S x0 = 5) (
  m_cal (zP S 0 x0) (fun b1 =>
  m_chk (zK S x0 = 5) (
  m_chk (zK S b1 = 6) (
  m_cal (f_X6_at b1 (zI S 1 x0) S) (fun o2 =>
  m_if (o2.1 = x1) (
  m_chk (zK o2.2 x0 = 5) (
  m_bnd ((zI o2.2 1 x0) + (1 : Int32)) (fun v3 =>
  m_chk (zK o2.2 x0 = 5) (
  m_bnd (zsI o2.2 1 x0 v3) (fun S4 =>
  m_chk (vp_nar .boolean (1 : Int32) = (1 : Int32)) (some ((1 : Int32), S4))))))
  ) (
  m_chk (vp_nar .boolean (0 : Int32) = (0 : Int32)) (some ((0 : Int32), o2.2))
  ))))))
def f_X5_skip (x0 : Nat) (x1 : Int32) (S : ZS) : Option (Int32 × ZS) := f_X5_skip_0 x0 x1 S
def f_X11_isRank_17 (t0 : Int32) (S : ZS) : Option (Int32 × ZS) :=
  m_chk (vp_nar .boolean t0 = t0) (some (t0, S))
def f_X11_isRank_16 (S : ZS) : Option (Int32 × ZS) :=
  f_X11_isRank_17 (0 : Int32) S
def f_X11_isRank_0 (x0 : Int32) (S : ZS) : Option (Int32 × ZS) :=
  m_if (x0 < (49 : Int32)) (
  f_X11_isRank_16  S
  ) (
  m_if ((56 : Int32) < x0) (
  f_X11_isRank_16  S
  ) (
  f_X11_isRank_17 (1 : Int32) S
  )
  )
def f_X11_isRank (x0 : Int32) (S : ZS) : Option (Int32 × ZS) := f_X11_isRank_0 x0 S
def f_J1_canEncode_9a6ad_16 (t0 : Int32) (S : ZS) : Option (Int32 × ZS) :=
  m_chk (vp_nar .boolean t0 = t0) (some (t0, S))
def f_J1_canEncode_9a6ad_15 (S : ZS) : Option (Int32 × ZS) :=
  f_J1_canEncode_9a6ad_16 (0 : Int32) S
def f_J1_canEncode_9a6ad_0 (x0 : Int32) (S : ZS) : Option (Int32 × ZS) :=
  m_if (x0 < 0) (
  f_J1_canEncode_9a6ad_15  S
  ) (
  m_if ((255 : Int32) < x0) (
  f_J1_canEncode_9a6ad_15  S
  ) (
  f_J1_canEncode_9a6ad_16 (1 : Int32) S
  )
  )
def f_J1_canEncode_9a6ad (x0 : Int32) (S : ZS) : Option (Int32 × ZS) := f_J1_canEncode_9a6ad_0 x0 S
def f_J1_indexOfChar_4cfef_7s (self7 : Nat → Int32 → Int32 → Int32 → ZS → Option (Int32 × ZS)) (x0 : Nat) (x3 : Int32) (x4 : Int32) (x5 : Int32) (S : ZS) : Option (Int32 × ZS) :=
  m_if (x3 ≤ x5) (
  some ((-1 : Int32), S)
  ) (
  m_chk (x0 < zSn) (
  m_chk (¬ (x5 < 0 ∨ zSl.getD x0 0 ≤ (x5).toNatClampNeg)) (
  m_bnd ((zSb.getD x0 []).getD (x5).toNatClampNeg 0) (fun v1 =>
  m_if (v1 = x4) (
  some (x5, S)
  ) (
  m_bnd (x5 + (1 : Int32)) (fun v2 =>
  self7 x0 x3 x4 v2 S)
  ))))
  )
def f_J1_indexOfChar_4cfef_7 : Nat → Nat → Int32 → Int32 → Int32 → ZS → Option (Int32 × ZS)
  | 0 => fun _ _ _ _ _ => none
  | n + 1 => f_J1_indexOfChar_4cfef_7s (f_J1_indexOfChar_4cfef_7 n)
def f_J1_indexOfChar_4cfef_0 (x0 : Nat) (x1 : Int32) (x2 : Int32) (x3 : Int32) (S : ZS) : Option (Int32 × ZS) :=
  m_bnd ((x1).toInt8.toInt32) (fun v1 =>
  f_J1_indexOfChar_4cfef_7 mFuel x0 x3 v1 x2 S)
def f_J1_indexOfChar_4cfef (x0 : Nat) (x1 : Int32) (x2 : Int32) (x3 : Int32) (S : ZS) : Option (Int32 × ZS) := f_J1_indexOfChar_4cfef_0 x0 x1 x2 x3 S
def f_J1_indexOf_4cfef_0 (x0 : Nat) (x1 : Int32) (x2 : Int32) (x3 : Int32) (S : ZS) : Option (Int32 × ZS) :=
  m_cal (f_J1_canEncode_9a6ad x1 S) (fun o1 =>
  m_if (o1.1 = 0) (
  some ((-1 : Int32), o1.2)
  ) (
  m_bnd (if x2 < (0 : Int32) then (0 : Int32) else x2) (fun v2 =>
  m_chk (x0 < zSn) (
  m_bnd (Int32.ofNat (zSl.getD x0 0)) (fun v3 =>
  m_bnd (if v3 < x3 then v3 else x3) (fun v4 =>
  m_if (v2 < v4) (
  m_cal (f_J1_indexOfChar_4cfef x0 x1 v2 v4 o1.2) (fun o5 =>
  some (o5.1, o5.2))
  ) (
  some ((-1 : Int32), o1.2)
  )))))
  ))
def f_J1_indexOf_4cfef (x0 : Nat) (x1 : Int32) (x2 : Int32) (x3 : Int32) (S : ZS) : Option (Int32 × ZS) := f_J1_indexOf_4cfef_0 x0 x1 x2 x3 S
def f_J0_indexOf_7cf53_0 (x0 : Nat) (x1 : Int32) (x2 : Int32) (S : ZS) : Option (Int32 × ZS) :=
  m_chk (x0 < zSn) (
  m_cal (f_J0_isLatin1_aae02 x0 S) (fun o1 =>
  m_if (o1.1 = 0) (
  none
  ) (
  m_chk (x0 < zSn) (
  m_chk (x0 < zSn) (
  m_cal (f_J0_length_8abf5 x0 o1.2) (fun o2 =>
  m_cal (f_J1_indexOf_4cfef x0 x1 x2 o2.1 o2.2) (fun o3 =>
  some (o3.1, o3.2)))))
  )))
def f_J0_indexOf_7cf53 (x0 : Nat) (x1 : Int32) (x2 : Int32) (S : ZS) : Option (Int32 × ZS) := f_J0_indexOf_7cf53_0 x0 x1 x2 S
def f_J0_indexOf_0f7a4_0 (x0 : Nat) (x1 : Int32) (S : ZS) : Option (Int32 × ZS) :=
  m_chk (x0 < zSn) (
  m_cal (f_J0_indexOf_7cf53 x0 x1 (0 : Int32) S) (fun o1 =>
  some (o1.1, o1.2)))
def f_J0_indexOf_0f7a4 (x0 : Nat) (x1 : Int32) (S : ZS) : Option (Int32 × ZS) := f_J0_indexOf_0f7a4_0 x0 x1 S
def f_X5_readRank_136 (t0 : Int32) (S : ZS) : Option (Int32 × ZS) :=
  m_chk (vp_nar .boolean t0 = t0) (some (t0, S))
def f_X5_readRank_105 (self5 : Nat → Nat → Int32 → Int32 → Int32 → ZS → Option (Int32 × ZS)) (x0 : Nat) (x1 : Nat) (x2 : Int32) (x6 : Int32) (t0 : Int32) (t1 : Int32) (S : ZS) : Option (Int32 × ZS) :=
  m_bnd (t1 + t0) (fun v1 =>
  m_chk (zK S x0 = 5) (
  m_bnd ((zI S 1 x0) + (1 : Int32)) (fun v2 =>
  m_chk (zK S x0 = 5) (
  m_bnd (zsI S 1 x0 v2) (fun S3 =>
  self5 x0 x1 x2 x6 v1 S3)))))
def f_X5_readRank_89 (self5 : Nat → Nat → Int32 → Int32 → Int32 → ZS → Option (Int32 × ZS)) (x0 : Nat) (x1 : Nat) (x2 : Int32) (x4 : Int32) (x5 : Int32) (x6 : Int32) (S : ZS) : Option (Int32 × ZS) :=
  m_if (x6 = 0) (
  f_X5_readRank_105 self5 x0 x1 x2 x6 (1 : Int32) x4 S
  ) (
  m_bnd (x5 - (48 : Int32)) (fun v1 =>
  f_X5_readRank_105 self5 x0 x1 x2 x6 v1 x4 S)
  )
def f_X5_readRank_74 (self5 : Nat → Nat → Int32 → Int32 → Int32 → ZS → Option (Int32 × ZS)) (x0 : Nat) (x1 : Nat) (x2 : Int32) (x4 : Int32) (x5 : Int32) (x6 : Int32) (x7 : Int32) (S : ZS) : Option (Int32 × ZS) :=
  m_if (x6 = 0) (
  m_bnd (x2 + x4) (fun v1 =>
  m_chk (zK S x1 = 0) (
  m_cal (f_X0_put x1 v1 x7 S) (fun o2 =>
  f_X5_readRank_89 self5 x0 x1 x2 x4 x5 x6 o2.2)))
  ) (
  f_X5_readRank_89 self5 x0 x1 x2 x4 x5 x6 S
  )
def f_X5_readRank_72 (S : ZS) : Option (Int32 × ZS) :=
  m_chk (vp_nar .boolean (0 : Int32) = (0 : Int32)) (some ((0 : Int32), S))
def f_X5_readRank_53 (self5 : Nat → Nat → Int32 → Int32 → Int32 → ZS → Option (Int32 × ZS)) (x0 : Nat) (x1 : Nat) (x2 : Int32) (x3 : Int32) (x4 : Int32) (x5 : Int32) (x6 : Int32) (t0 : Int32) (S : ZS) : Option (Int32 × ZS) :=
  m_if (x6 = 0) (
  m_if (t0 = 0) (
  f_X5_readRank_72  S
  ) (
  f_X5_readRank_74 self5 x0 x1 x2 x4 x5 x6 t0 S
  )
  ) (
  m_if (x3 = 0) (
  f_X5_readRank_74 self5 x0 x1 x2 x4 x5 x6 t0 S
  ) (
  f_X5_readRank_72  S
  )
  )
def f_X5_readRank_5s (self5 : Nat → Nat → Int32 → Int32 → Int32 → ZS → Option (Int32 × ZS)) (x0 : Nat) (x1 : Nat) (x2 : Int32) (x3 : Int32) (x4 : Int32) (S : ZS) : Option (Int32 × ZS) :=
  m_if ((8 : Int32) ≤ x4) (
  m_if (x4 = (8 : Int32)) (
  f_X5_readRank_136 (1 : Int32) S
  ) (
  f_X5_readRank_136 (0 : Int32) S
  )
  ) (
  m_chk (zK S x0 = 5) (
  m_cal (zP S 0 x0) (fun b1 =>
  m_chk (zK S x0 = 5) (
  m_chk (zK S b1 = 6) (
  m_cal (f_X6_at b1 (zI S 1 x0) S) (fun o2 =>
  m_cal (f_X11_isRank o2.1 o2.2) (fun o3 =>
  m_cal (f_X11_isLetter o2.1 o3.2) (fun o4 =>
  m_if (o4.1 = 0) (
  f_X5_readRank_53 self5 x0 x1 x2 x3 x4 o2.1 o3.1 (0 : Int32) o4.2
  ) (
  m_chk (1 < zSn) (
  m_cal (f_J0_indexOf_0f7a4 1 o2.1 o4.2) (fun o5 =>
  m_bnd (o5.1 + (1 : Int32)) (fun v6 =>
  f_X5_readRank_53 self5 x0 x1 x2 x3 x4 o2.1 o3.1 v6 o5.2)))
  ))))))))
  )
def f_X5_readRank_5 : Nat → Nat → Nat → Int32 → Int32 → Int32 → ZS → Option (Int32 × ZS)
  | 0 => fun _ _ _ _ _ _ => none
  | n + 1 => f_X5_readRank_5s (f_X5_readRank_5 n)
def f_X5_readRank_0 (x0 : Nat) (x1 : Nat) (x2 : Int32) (S : ZS) : Option (Int32 × ZS) :=
  f_X5_readRank_5 mFuel x0 x1 x2 (0 : Int32) (0 : Int32) S
def f_X5_readRank (x0 : Nat) (x1 : Nat) (x2 : Int32) (S : ZS) : Option (Int32 × ZS) := f_X5_readRank_0 x0 x1 x2 S
def f_X5_readMen_34 (S : ZS) : Option (Int32 × ZS) :=
  m_chk (vp_nar .boolean (0 : Int32) = (0 : Int32)) (some ((0 : Int32), S))
def f_X5_readMen_22 (self3 : Nat → Nat → Int32 → ZS → Option (Int32 × ZS)) (x0 : Nat) (x1 : Nat) (x2 : Int32) (S : ZS) : Option (Int32 × ZS) :=
  m_bnd ((8 : Int32) * x2) (fun v1 =>
  m_chk (zK S x0 = 5) (
  m_cal (f_X5_readRank x0 x1 v1 S) (fun o2 =>
  m_if (o2.1 = 0) (
  f_X5_readMen_34  o2.2
  ) (
  m_bnd (x2 + (-1 : Int32)) (fun v3 =>
  self3 x0 x1 v3 o2.2)
  ))))
def f_X5_readMen_3s (self3 : Nat → Nat → Int32 → ZS → Option (Int32 × ZS)) (x0 : Nat) (x1 : Nat) (x2 : Int32) (S : ZS) : Option (Int32 × ZS) :=
  m_if (x2 < 0) (
  m_chk (vp_nar .boolean (1 : Int32) = (1 : Int32)) (some ((1 : Int32), S))
  ) (
  m_if ((7 : Int32) ≤ x2) (
  f_X5_readMen_22 self3 x0 x1 x2 S
  ) (
  m_chk (zK S x0 = 5) (
  m_cal (f_X5_skip x0 (47 : Int32) S) (fun o1 =>
  m_if (o1.1 = 0) (
  f_X5_readMen_34  o1.2
  ) (
  f_X5_readMen_22 self3 x0 x1 x2 o1.2
  )))
  )
  )
def f_X5_readMen_3 : Nat → Nat → Nat → Int32 → ZS → Option (Int32 × ZS)
  | 0 => fun _ _ _ _ => none
  | n + 1 => f_X5_readMen_3s (f_X5_readMen_3 n)
def f_X5_readMen_0 (x0 : Nat) (x1 : Nat) (S : ZS) : Option (Int32 × ZS) :=
  f_X5_readMen_3 mFuel x0 x1 (7 : Int32) S
def f_X5_readMen (x0 : Nat) (x1 : Nat) (S : ZS) : Option (Int32 × ZS) := f_X5_readMen_0 x0 x1 S
def f_X5_readSide_48 (t0 : Int32) (S : ZS) : Option (Int32 × ZS) :=
  m_chk (vp_nar .boolean t0 = t0) (some (t0, S))
def f_X5_readSide_43 (S : ZS) : Option (Int32 × ZS) :=
  f_X5_readSide_48 (1 : Int32) S
def f_X5_readSide_22 (x0 : Nat) (t0 : Int32) (t1 : Nat) (S : ZS) : Option (Int32 × ZS) :=
  m_chk (zK S t1 = 0) (
  m_bnd (zsI S 3 t1 t0) (fun S1 =>
  m_chk (zK S1 x0 = 5) (
  m_cal (f_X5_skip x0 (119 : Int32) S1) (fun o2 =>
  m_if (o2.1 = 0) (
  m_chk (zK o2.2 x0 = 5) (
  m_cal (f_X5_skip x0 (98 : Int32) o2.2) (fun o3 =>
  m_if (o3.1 = 0) (
  f_X5_readSide_48 (0 : Int32) o3.2
  ) (
  f_X5_readSide_43  o3.2
  )))
  ) (
  f_X5_readSide_43  o2.2
  )))))
def f_X5_readSide_0 (x0 : Nat) (x1 : Nat) (S : ZS) : Option (Int32 × ZS) :=
  m_chk (zK S x0 = 5) (
  m_cal (zP S 0 x0) (fun b1 =>
  m_chk (zK S x0 = 5) (
  m_chk (zK S b1 = 6) (
  m_cal (f_X6_at b1 (zI S 1 x0) S) (fun o2 =>
  m_if (o2.1 = (98 : Int32)) (
  f_X5_readSide_22 x0 (1 : Int32) x1 o2.2
  ) (
  f_X5_readSide_22 x0 (0 : Int32) x1 o2.2
  ))))))
def f_X5_readSide (x0 : Nat) (x1 : Nat) (S : ZS) : Option (Int32 × ZS) := f_X5_readSide_0 x0 x1 S
def f_X5_readRights_65 (t0 : Int32) (S : ZS) : Option (Int32 × ZS) :=
  m_chk (vp_nar .boolean t0 = t0) (some (t0, S))
def f_X5_readRights_47 (self13 : Nat → Nat → Int32 → ZS → Option (Int32 × ZS)) (x0 : Nat) (x1 : Nat) (x2 : Int32) (S : ZS) : Option (Int32 × ZS) :=
  m_bnd (x2 + (1 : Int32)) (fun v1 =>
  self13 x0 x1 v1 S)
def f_X5_readRights_13s (self13 : Nat → Nat → Int32 → ZS → Option (Int32 × ZS)) (x0 : Nat) (x1 : Nat) (x2 : Int32) (S : ZS) : Option (Int32 × ZS) :=
  m_chk (2 < zSn) (
  m_cal (f_J0_length_8abf5 2 S) (fun o1 =>
  m_if (o1.1 ≤ x2) (
  m_chk (zK o1.2 x1 = 0) (
  m_if ((zI o1.2 4 x1) = 0) (
  f_X5_readRights_65 (0 : Int32) o1.2
  ) (
  f_X5_readRights_65 (1 : Int32) o1.2
  ))
  ) (
  m_chk (2 < zSn) (
  m_cal (f_J0_charAt_5068e 2 x2 o1.2) (fun o2 =>
  m_chk (zK o2.2 x0 = 5) (
  m_cal (f_X5_skip x0 o2.1 o2.2) (fun o3 =>
  m_if (o3.1 = 0) (
  f_X5_readRights_47 self13 x0 x1 x2 o3.2
  ) (
  m_chk (zK o3.2 x1 = 0) (
  m_bnd ((1 : Int32) <<< (x2 &&& 31)) (fun v4 =>
  m_bnd ((zI o3.2 4 x1) ||| v4) (fun v5 =>
  m_chk (zK o3.2 x1 = 0) (
  m_bnd (zsI o3.2 4 x1 v5) (fun S6 =>
  f_X5_readRights_47 self13 x0 x1 x2 S6)))))
  )))))
  )))
def f_X5_readRights_13 : Nat → Nat → Nat → Int32 → ZS → Option (Int32 × ZS)
  | 0 => fun _ _ _ _ => none
  | n + 1 => f_X5_readRights_13s (f_X5_readRights_13 n)
def f_X5_readRights_0 (x0 : Nat) (x1 : Nat) (S : ZS) : Option (Int32 × ZS) :=
  m_chk (zK S x0 = 5) (
  m_cal (f_X5_skip x0 (45 : Int32) S) (fun o1 =>
  m_if (o1.1 = 0) (
  f_X5_readRights_13 mFuel x0 x1 (0 : Int32) o1.2
  ) (
  m_chk (vp_nar .boolean (1 : Int32) = (1 : Int32)) (some ((1 : Int32), o1.2))
  )))
def f_X5_readRights (x0 : Nat) (x1 : Nat) (S : ZS) : Option (Int32 × ZS) := f_X5_readRights_0 x0 x1 S
def f_X11_isFile_17 (t0 : Int32) (S : ZS) : Option (Int32 × ZS) :=
  m_chk (vp_nar .boolean t0 = t0) (some (t0, S))
def f_X11_isFile_16 (S : ZS) : Option (Int32 × ZS) :=
  f_X11_isFile_17 (0 : Int32) S
def f_X11_isFile_0 (x0 : Int32) (S : ZS) : Option (Int32 × ZS) :=
  m_if (x0 < (97 : Int32)) (
  f_X11_isFile_16  S
  ) (
  m_if ((104 : Int32) < x0) (
  f_X11_isFile_16  S
  ) (
  f_X11_isFile_17 (1 : Int32) S
  )
  )
def f_X11_isFile (x0 : Int32) (S : ZS) : Option (Int32 × ZS) := f_X11_isFile_0 x0 S
def f_X11_squareOf_30 (t0 : Int32) (S : ZS) : Option (Int32 × ZS) :=
  some (t0, S)
def f_X11_squareOf_29 (S : ZS) : Option (Int32 × ZS) :=
  f_X11_squareOf_30 (-1 : Int32) S
def f_X11_squareOf_0 (x0 : Int32) (x1 : Int32) (S : ZS) : Option (Int32 × ZS) :=
  m_cal (f_X11_isFile x0 S) (fun o1 =>
  m_if (o1.1 = 0) (
  f_X11_squareOf_29  o1.2
  ) (
  m_cal (f_X11_isRank x1 o1.2) (fun o2 =>
  m_if (o2.1 = 0) (
  f_X11_squareOf_29  o2.2
  ) (
  m_bnd (x0 - (97 : Int32)) (fun v3 =>
  m_bnd (x1 - (49 : Int32)) (fun v4 =>
  m_bnd ((8 : Int32) * v4) (fun v5 =>
  m_bnd (v3 + v5) (fun v6 =>
  f_X11_squareOf_30 v6 o2.2))))
  ))
  ))
def f_X11_squareOf (x0 : Int32) (x1 : Int32) (S : ZS) : Option (Int32 × ZS) := f_X11_squareOf_0 x0 x1 S
def f_X5_readPassed_65 (t0 : Int32) (S : ZS) : Option (Int32 × ZS) :=
  m_chk (vp_nar .boolean t0 = t0) (some (t0, S))
def f_X5_readPassed_0 (x0 : Nat) (x1 : Nat) (S : ZS) : Option (Int32 × ZS) :=
  m_chk (zK S x0 = 5) (
  m_cal (f_X5_skip x0 (45 : Int32) S) (fun o1 =>
  m_if (o1.1 = 0) (
  m_chk (zK o1.2 x0 = 5) (
  m_cal (zP o1.2 0 x0) (fun b2 =>
  m_chk (zK o1.2 x0 = 5) (
  m_chk (zK o1.2 b2 = 6) (
  m_cal (f_X6_at b2 (zI o1.2 1 x0) o1.2) (fun o3 =>
  m_chk (zK o3.2 x0 = 5) (
  m_cal (zP o3.2 0 x0) (fun b4 =>
  m_chk (zK o3.2 x0 = 5) (
  m_bnd ((zI o3.2 1 x0) + (1 : Int32)) (fun v5 =>
  m_chk (zK o3.2 b4 = 6) (
  m_cal (f_X6_at b4 v5 o3.2) (fun o6 =>
  m_cal (f_X11_squareOf o3.1 o6.1 o6.2) (fun o7 =>
  m_chk (zK o7.2 x1 = 0) (
  m_bnd (zsI o7.2 5 x1 o7.1) (fun S8 =>
  m_chk (zK S8 x0 = 5) (
  m_bnd ((zI S8 1 x0) + (2 : Int32)) (fun v9 =>
  m_chk (zK S8 x0 = 5) (
  m_bnd (zsI S8 1 x0 v9) (fun S10 =>
  m_chk (zK S10 x1 = 0) (
  m_if ((zI S10 5 x1) = (-1 : Int32)) (
  f_X5_readPassed_65 (0 : Int32) S10
  ) (
  f_X5_readPassed_65 (1 : Int32) S10
  ))))))))))))))))))))
  ) (
  m_chk (vp_nar .boolean (1 : Int32) = (1 : Int32)) (some ((1 : Int32), o1.2))
  )))
def f_X5_readPassed (x0 : Nat) (x1 : Nat) (S : ZS) : Option (Int32 × ZS) := f_X5_readPassed_0 x0 x1 S
def f_X5_readNumber_113 (t0 : Int32) (S : ZS) : Option (Int32 × ZS) :=
  some (t0, S)
def f_X5_readNumber_108 (S : ZS) : Option (Int32 × ZS) :=
  f_X5_readNumber_113 (-1 : Int32) S
def f_X5_readNumber_95 (x0 : Nat) (x1 : Int32) (x2 : Int32) (t0 : Int32) (S : ZS) : Option (Int32 × ZS) :=
  m_chk (zK S x0 = 5) (
  m_if ((zI S 1 x0) = x1) (
  f_X5_readNumber_108  S
  ) (
  m_if (t0 = 0) (
  f_X5_readNumber_113 x2 S
  ) (
  f_X5_readNumber_108  S
  )
  ))
def f_X5_readNumber_94 (x0 : Nat) (x1 : Int32) (x2 : Int32) (S : ZS) : Option (Int32 × ZS) :=
  f_X5_readNumber_95 x0 x1 x2 (0 : Int32) S
def f_X5_readNumber_67 (x0 : Nat) (x1 : Int32) (x2 : Int32) (S : ZS) : Option (Int32 × ZS) :=
  m_chk (zK S x0 = 5) (
  m_cal (zP S 0 x0) (fun b1 =>
  m_chk (zK S b1 = 6) (
  m_cal (f_X6_at b1 x1 S) (fun o2 =>
  m_if (o2.1 = (48 : Int32)) (
  m_chk (zK o2.2 x0 = 5) (
  m_bnd (x1 + (1 : Int32)) (fun v3 =>
  m_if ((zI o2.2 1 x0) ≤ v3) (
  f_X5_readNumber_94 x0 x1 x2 o2.2
  ) (
  f_X5_readNumber_95 x0 x1 x2 (1 : Int32) o2.2
  )))
  ) (
  f_X5_readNumber_94 x0 x1 x2 o2.2
  )))))
def f_X5_readNumber_7s (self7 : Nat → Int32 → Int32 → ZS → Option (Int32 × ZS)) (x0 : Nat) (x1 : Int32) (x2 : Int32) (S : ZS) : Option (Int32 × ZS) :=
  m_chk (zK S x0 = 5) (
  m_bnd (x1 + (3 : Int32)) (fun v1 =>
  m_if (v1 ≤ (zI S 1 x0)) (
  f_X5_readNumber_67 x0 x1 x2 S
  ) (
  m_chk (zK S x0 = 5) (
  m_cal (zP S 0 x0) (fun b2 =>
  m_chk (zK S x0 = 5) (
  m_chk (zK S b2 = 6) (
  m_cal (f_X6_at b2 (zI S 1 x0) S) (fun o3 =>
  m_cal (f_X11_isDigit o3.1 o3.2) (fun o4 =>
  m_if (o4.1 = 0) (
  f_X5_readNumber_67 x0 x1 x2 o4.2
  ) (
  m_bnd ((10 : Int32) * x2) (fun v5 =>
  m_chk (zK o4.2 x0 = 5) (
  m_cal (zP o4.2 0 x0) (fun b6 =>
  m_chk (zK o4.2 x0 = 5) (
  m_chk (zK o4.2 b6 = 6) (
  m_cal (f_X6_at b6 (zI o4.2 1 x0) o4.2) (fun o7 =>
  m_bnd (v5 + o7.1) (fun v8 =>
  m_bnd (v8 - (48 : Int32)) (fun v9 =>
  m_chk (zK o7.2 x0 = 5) (
  m_bnd ((zI o7.2 1 x0) + (1 : Int32)) (fun v10 =>
  m_chk (zK o7.2 x0 = 5) (
  m_bnd (zsI o7.2 1 x0 v10) (fun S11 =>
  self7 x0 x1 v9 S11))))))))))))
  )))))))
  )))
def f_X5_readNumber_7 : Nat → Nat → Int32 → Int32 → ZS → Option (Int32 × ZS)
  | 0 => fun _ _ _ _ => none
  | n + 1 => f_X5_readNumber_7s (f_X5_readNumber_7 n)
def f_X5_readNumber_0 (x0 : Nat) (S : ZS) : Option (Int32 × ZS) :=
  m_chk (zK S x0 = 5) (
  f_X5_readNumber_7 mFuel x0 (zI S 1 x0) (0 : Int32) S)
def f_X5_readNumber (x0 : Nat) (S : ZS) : Option (Int32 × ZS) := f_X5_readNumber_0 x0 S
def f_X5_readMoveNumber_20 (t0 : Int32) (S : ZS) : Option (Int32 × ZS) :=
  m_chk (vp_nar .boolean t0 = t0) (some (t0, S))
def f_X5_readMoveNumber_0 (x0 : Nat) (x1 : Nat) (S : ZS) : Option (Int32 × ZS) :=
  m_chk (zK S x0 = 5) (
  m_cal (f_X5_readNumber x0 S) (fun o1 =>
  m_chk (zK o1.2 x1 = 0) (
  m_bnd (zsI o1.2 6 x1 o1.1) (fun S2 =>
  m_chk (zK S2 x1 = 0) (
  m_if ((zI S2 6 x1) ≤ 0) (
  f_X5_readMoveNumber_20 (0 : Int32) S2
  ) (
  f_X5_readMoveNumber_20 (1 : Int32) S2
  ))))))
def f_X5_readMoveNumber (x0 : Nat) (x1 : Nat) (S : ZS) : Option (Int32 × ZS) := f_X5_readMoveNumber_0 x0 x1 S
def f_X5_hasSoundMen_115 (t0 : Int32) (S : ZS) : Option (Int32 × ZS) :=
  m_chk (vp_nar .boolean t0 = t0) (some (t0, S))
def f_X5_hasSoundMen_114 (S : ZS) : Option (Int32 × ZS) :=
  f_X5_hasSoundMen_115 (0 : Int32) S
def f_X5_hasSoundMen_73 (self6 : Nat → Int32 → Int32 → Int32 → ZS → Option (Int32 × ZS)) (x0 : Nat) (x1 : Int32) (x2 : Int32) (x3 : Int32) (S : ZS) : Option (Int32 × ZS) :=
  m_bnd (x3 + (1 : Int32)) (fun v1 =>
  self6 x0 x1 x2 v1 S)
def f_X5_hasSoundMen_71 (S : ZS) : Option (Int32 × ZS) :=
  m_chk (vp_nar .boolean (0 : Int32) = (0 : Int32)) (some ((0 : Int32), S))
def f_X5_hasSoundMen_48 (self6 : Nat → Int32 → Int32 → Int32 → ZS → Option (Int32 × ZS)) (x0 : Nat) (x1 : Int32) (x3 : Int32) (t0 : Int32) (t1 : Int32) (S : ZS) : Option (Int32 × ZS) :=
  m_bnd (t1 + t0) (fun v1 =>
  m_chk (zK S x0 = 0) (
  m_cal (f_X0_kindAt x0 x3 S) (fun o2 =>
  m_if (o2.1 = (1 : Int32)) (
  m_if (x3 < (8 : Int32)) (
  f_X5_hasSoundMen_71  o2.2
  ) (
  m_if (x3 < (56 : Int32)) (
  f_X5_hasSoundMen_73 self6 x0 x1 v1 x3 o2.2
  ) (
  f_X5_hasSoundMen_71  o2.2
  )
  )
  ) (
  f_X5_hasSoundMen_73 self6 x0 x1 v1 x3 o2.2
  ))))
def f_X5_hasSoundMen_29 (self6 : Nat → Int32 → Int32 → Int32 → ZS → Option (Int32 × ZS)) (x0 : Nat) (x2 : Int32) (x3 : Int32) (t0 : Int32) (t1 : Int32) (S : ZS) : Option (Int32 × ZS) :=
  m_bnd (t1 + t0) (fun v1 =>
  m_chk (zK S x0 = 0) (
  m_cal (zP S 0 x0) (fun b2 =>
  m_chk (zK S b2 = 14) (
  m_chk (¬ (x3 < 0 ∨ zN S b2 ≤ (x3).toNatClampNeg)) (
  m_bnd (zA S b2 (x3).toNatClampNeg) (fun v3 =>
  m_if (v3 = (14 : Int32)) (
  f_X5_hasSoundMen_48 self6 x0 v1 x3 (1 : Int32) x2 S
  ) (
  f_X5_hasSoundMen_48 self6 x0 v1 x3 (0 : Int32) x2 S
  )))))))
def f_X5_hasSoundMen_6s (self6 : Nat → Int32 → Int32 → Int32 → ZS → Option (Int32 × ZS)) (x0 : Nat) (x1 : Int32) (x2 : Int32) (x3 : Int32) (S : ZS) : Option (Int32 × ZS) :=
  m_if ((64 : Int32) ≤ x3) (
  m_if (x1 = (1 : Int32)) (
  m_if (x2 = (1 : Int32)) (
  m_chk (zK S x0 = 0) (
  m_bnd ((1 : Int32) - (zI S 3 x0)) (fun v1 =>
  m_chk (zK S x0 = 0) (
  m_cal (f_X0_kingOf x0 v1 S) (fun o2 =>
  m_chk (zK o2.2 x0 = 0) (
  m_chk (zK o2.2 x0 = 0) (
  m_cal (f_X0_attacked x0 o2.1 (zI o2.2 3 x0) o2.2) (fun o3 =>
  m_if (o3.1 = 0) (
  f_X5_hasSoundMen_115 (1 : Int32) o3.2
  ) (
  f_X5_hasSoundMen_114  o3.2
  ))))))))
  ) (
  f_X5_hasSoundMen_114  S
  )
  ) (
  f_X5_hasSoundMen_114  S
  )
  ) (
  m_chk (zK S x0 = 0) (
  m_cal (zP S 0 x0) (fun b4 =>
  m_chk (zK S b4 = 14) (
  m_chk (¬ (x3 < 0 ∨ zN S b4 ≤ (x3).toNatClampNeg)) (
  m_bnd (zA S b4 (x3).toNatClampNeg) (fun v5 =>
  m_if (v5 = (6 : Int32)) (
  f_X5_hasSoundMen_29 self6 x0 x2 x3 (1 : Int32) x1 S
  ) (
  f_X5_hasSoundMen_29 self6 x0 x2 x3 (0 : Int32) x1 S
  ))))))
  )
def f_X5_hasSoundMen_6 : Nat → Nat → Int32 → Int32 → Int32 → ZS → Option (Int32 × ZS)
  | 0 => fun _ _ _ _ _ => none
  | n + 1 => f_X5_hasSoundMen_6s (f_X5_hasSoundMen_6 n)
def f_X5_hasSoundMen_0 (x0 : Nat) (S : ZS) : Option (Int32 × ZS) :=
  f_X5_hasSoundMen_6 mFuel x0 (0 : Int32) (0 : Int32) (0 : Int32) S
def f_X5_hasSoundMen (x0 : Nat) (S : ZS) : Option (Int32 × ZS) := f_X5_hasSoundMen_0 x0 S
def f_X5_hasSoundRights_92 (self2 : Nat → Int32 → ZS → Option (Int32 × ZS)) (x0 : Nat) (x1 : Int32) (S : ZS) : Option (Int32 × ZS) :=
  m_bnd (x1 + (1 : Int32)) (fun v1 =>
  self2 x0 v1 S)
def f_X5_hasSoundRights_90 (S : ZS) : Option (Int32 × ZS) :=
  m_chk (vp_nar .boolean (0 : Int32) = (0 : Int32)) (some ((0 : Int32), S))
def f_X5_hasSoundRights_50 (self2 : Nat → Int32 → ZS → Option (Int32 × ZS)) (x0 : Nat) (x1 : Int32) (x2 : Int32) (x3 : Int32) (t0 : Int32) (S : ZS) : Option (Int32 × ZS) :=
  m_chk (zK S x0 = 0) (
  m_bnd ((zI S 4 x0) >>> (x1 &&& 31)) (fun v1 =>
  m_bnd (v1 &&& (1 : Int32)) (fun v2 =>
  m_if (v2 = (1 : Int32)) (
  m_chk (zK S x0 = 0) (
  m_cal (zP S 0 x0) (fun b3 =>
  m_chk (zK S b3 = 14) (
  m_chk (¬ (x3 < 0 ∨ zN S b3 ≤ (x3).toNatClampNeg)) (
  m_bnd (zA S b3 (x3).toNatClampNeg) (fun v4 =>
  m_bnd ((6 : Int32) + x2) (fun v5 =>
  m_if (v4 = v5) (
  m_chk (zK S x0 = 0) (
  m_cal (zP S 0 x0) (fun b6 =>
  m_chk (zK S b6 = 14) (
  m_chk (¬ (t0 < 0 ∨ zN S b6 ≤ (t0).toNatClampNeg)) (
  m_bnd (zA S b6 (t0).toNatClampNeg) (fun v7 =>
  m_bnd ((4 : Int32) + x2) (fun v8 =>
  m_if (v7 = v8) (
  f_X5_hasSoundRights_92 self2 x0 x1 S
  ) (
  f_X5_hasSoundRights_90  S
  )))))))
  ) (
  f_X5_hasSoundRights_90  S
  )))))))
  ) (
  f_X5_hasSoundRights_92 self2 x0 x1 S
  ))))
def f_X5_hasSoundRights_34 (self2 : Nat → Int32 → ZS → Option (Int32 × ZS)) (x0 : Nat) (x1 : Int32) (x2 : Int32) (t0 : Int32) (S : ZS) : Option (Int32 × ZS) :=
  m_bnd (x1 - x1 / (2 : Int32) * (2 : Int32)) (fun v1 =>
  m_if (v1 = 0) (
  m_bnd (t0 + (3 : Int32)) (fun v3 =>
  f_X5_hasSoundRights_50 self2 x0 x1 x2 t0 v3 S)
  ) (
  m_bnd (t0 - (4 : Int32)) (fun v2 =>
  f_X5_hasSoundRights_50 self2 x0 x1 x2 t0 v2 S)
  ))
def f_X5_hasSoundRights_22 (self2 : Nat → Int32 → ZS → Option (Int32 × ZS)) (x0 : Nat) (x1 : Int32) (t0 : Int32) (S : ZS) : Option (Int32 × ZS) :=
  m_if ((2 : Int32) ≤ x1) (
  f_X5_hasSoundRights_34 self2 x0 x1 t0 (60 : Int32) S
  ) (
  f_X5_hasSoundRights_34 self2 x0 x1 t0 (4 : Int32) S
  )
def f_X5_hasSoundRights_2s (self2 : Nat → Int32 → ZS → Option (Int32 × ZS)) (x0 : Nat) (x1 : Int32) (S : ZS) : Option (Int32 × ZS) :=
  m_chk (2 < zSn) (
  m_cal (f_J0_length_8abf5 2 S) (fun o1 =>
  m_if (o1.1 ≤ x1) (
  m_chk (vp_nar .boolean (1 : Int32) = (1 : Int32)) (some ((1 : Int32), o1.2))
  ) (
  m_if ((2 : Int32) ≤ x1) (
  f_X5_hasSoundRights_22 self2 x0 x1 (8 : Int32) o1.2
  ) (
  f_X5_hasSoundRights_22 self2 x0 x1 (0 : Int32) o1.2
  )
  )))
def f_X5_hasSoundRights_2 : Nat → Nat → Int32 → ZS → Option (Int32 × ZS)
  | 0 => fun _ _ _ => none
  | n + 1 => f_X5_hasSoundRights_2s (f_X5_hasSoundRights_2 n)
def f_X5_hasSoundRights_0 (x0 : Nat) (S : ZS) : Option (Int32 × ZS) :=
  f_X5_hasSoundRights_2 mFuel x0 (0 : Int32) S
def f_X5_hasSoundRights (x0 : Nat) (S : ZS) : Option (Int32 × ZS) := f_X5_hasSoundRights_0 x0 S
def f_X5_hasSoundPassed_49 (S : ZS) : Option (Int32 × ZS) :=
  m_chk (vp_nar .boolean (0 : Int32) = (0 : Int32)) (some ((0 : Int32), S))
def f_X5_hasSoundPassed_113 (t0 : Int32) (S : ZS) : Option (Int32 × ZS) :=
  m_chk (vp_nar .boolean t0 = t0) (some (t0, S))
def f_X5_hasSoundPassed_112 (S : ZS) : Option (Int32 × ZS) :=
  f_X5_hasSoundPassed_113 (0 : Int32) S
def f_X5_hasSoundPassed_62 (x0 : Nat) (x1 : Int32) (t0 : Int32) (S : ZS) : Option (Int32 × ZS) :=
  m_chk (zK S x0 = 0) (
  m_cal (zP S 0 x0) (fun b1 =>
  m_bnd (x1 + t0) (fun v2 =>
  m_chk (zK S b1 = 14) (
  m_chk (¬ (v2 < 0 ∨ zN S b1 ≤ (v2).toNatClampNeg)) (
  m_bnd (zA S b1 (v2).toNatClampNeg) (fun v3 =>
  m_chk (zK S x0 = 0) (
  m_bnd ((1 : Int32) - (zI S 3 x0)) (fun v4 =>
  m_bnd ((8 : Int32) * v4) (fun v5 =>
  m_bnd ((1 : Int32) + v5) (fun v6 =>
  m_if (v3 = v6) (
  m_chk (zK S x0 = 0) (
  m_cal (zP S 0 x0) (fun b7 =>
  m_bnd (x1 - t0) (fun v8 =>
  m_chk (zK S b7 = 14) (
  m_chk (¬ (v8 < 0 ∨ zN S b7 ≤ (v8).toNatClampNeg)) (
  m_bnd (zA S b7 (v8).toNatClampNeg) (fun v9 =>
  m_if (v9 = 0) (
  m_chk (zK S x0 = 0) (
  m_chk (zK S x0 = 0) (
  m_cal (f_X0_pawnAttacks x0 x1 (zI S 3 x0) S) (fun o10 =>
  m_if (o10.1 = 0) (
  f_X5_hasSoundPassed_112  o10.2
  ) (
  f_X5_hasSoundPassed_113 (1 : Int32) o10.2
  ))))
  ) (
  f_X5_hasSoundPassed_112  S
  )))))))
  ) (
  f_X5_hasSoundPassed_112  S
  )))))))))))
def f_X5_hasSoundPassed_37 (x0 : Nat) (x1 : Int32) (x2 : Int32) (t0 : Int32) (t1 : Int32) (S : ZS) : Option (Int32 × ZS) :=
  m_if (t1 = t0) (
  m_chk (zK S x0 = 0) (
  m_cal (zP S 0 x0) (fun b1 =>
  m_chk (zK S b1 = 14) (
  m_chk (¬ (x1 < 0 ∨ zN S b1 ≤ (x1).toNatClampNeg)) (
  m_bnd (zA S b1 (x1).toNatClampNeg) (fun v2 =>
  m_if (v2 = 0) (
  m_if (x2 = 0) (
  f_X5_hasSoundPassed_62 x0 x1 (8 : Int32) S
  ) (
  f_X5_hasSoundPassed_62 x0 x1 (-8 : Int32) S
  )
  ) (
  f_X5_hasSoundPassed_49  S
  ))))))
  ) (
  f_X5_hasSoundPassed_49  S
  )
def f_X5_hasSoundPassed_24 (x0 : Nat) (x1 : Int32) (t0 : Int32) (S : ZS) : Option (Int32 × ZS) :=
  m_bnd (x1 >>> ((3 : Int32) &&& 31)) (fun v1 =>
  m_if (t0 = 0) (
  f_X5_hasSoundPassed_37 x0 x1 t0 (2 : Int32) v1 S
  ) (
  f_X5_hasSoundPassed_37 x0 x1 t0 (5 : Int32) v1 S
  ))
def f_X5_hasSoundPassed_0 (x0 : Nat) (S : ZS) : Option (Int32 × ZS) :=
  m_chk (zK S x0 = 0) (
  m_if ((zI S 5 x0) = (-1 : Int32)) (
  m_chk (vp_nar .boolean (1 : Int32) = (1 : Int32)) (some ((1 : Int32), S))
  ) (
  m_chk (zK S x0 = 0) (
  m_if ((zI S 3 x0) = 0) (
  f_X5_hasSoundPassed_24 x0 (zI S 5 x0) (1 : Int32) S
  ) (
  f_X5_hasSoundPassed_24 x0 (zI S 5 x0) (0 : Int32) S
  ))
  ))
def f_X5_hasSoundPassed (x0 : Nat) (S : ZS) : Option (Int32 × ZS) := f_X5_hasSoundPassed_0 x0 S
def f_X5_readInto_146 (t0 : Int32) (S : ZS) : Option (Int32 × ZS) :=
  m_chk (vp_nar .boolean t0 = t0) (some (t0, S))
def f_X5_readInto_145 (S : ZS) : Option (Int32 × ZS) :=
  f_X5_readInto_146 (0 : Int32) S
def f_X5_readInto_0 (x0 : Nat) (x1 : Nat) (x2 : Nat) (S : ZS) : Option (Int32 × ZS) :=
  m_chk (zK S x0 = 5) (
  m_bnd (zsP S 0 x0 (some x2)) (fun S1 =>
  m_chk (zK S1 x0 = 5) (
  m_bnd (zsI S1 1 x0 (0 : Int32)) (fun S2 =>
  m_chk (zK S2 x1 = 0) (
  m_cal (f_X0_wipe x1 S2) (fun o3 =>
  m_chk (zK o3.2 x0 = 5) (
  m_cal (f_X5_readMen x0 x1 o3.2) (fun o4 =>
  m_if (o4.1 = 0) (
  f_X5_readInto_145  o4.2
  ) (
  m_chk (zK o4.2 x0 = 5) (
  m_cal (f_X5_skip x0 (32 : Int32) o4.2) (fun o5 =>
  m_if (o5.1 = 0) (
  f_X5_readInto_145  o5.2
  ) (
  m_chk (zK o5.2 x0 = 5) (
  m_cal (f_X5_readSide x0 x1 o5.2) (fun o6 =>
  m_if (o6.1 = 0) (
  f_X5_readInto_145  o6.2
  ) (
  m_chk (zK o6.2 x0 = 5) (
  m_cal (f_X5_skip x0 (32 : Int32) o6.2) (fun o7 =>
  m_if (o7.1 = 0) (
  f_X5_readInto_145  o7.2
  ) (
  m_chk (zK o7.2 x0 = 5) (
  m_cal (f_X5_readRights x0 x1 o7.2) (fun o8 =>
  m_if (o8.1 = 0) (
  f_X5_readInto_145  o8.2
  ) (
  m_chk (zK o8.2 x0 = 5) (
  m_cal (f_X5_skip x0 (32 : Int32) o8.2) (fun o9 =>
  m_if (o9.1 = 0) (
  f_X5_readInto_145  o9.2
  ) (
  m_chk (zK o9.2 x0 = 5) (
  m_cal (f_X5_readPassed x0 x1 o9.2) (fun o10 =>
  m_if (o10.1 = 0) (
  f_X5_readInto_145  o10.2
  ) (
  m_chk (zK o10.2 x0 = 5) (
  m_cal (f_X5_skip x0 (32 : Int32) o10.2) (fun o11 =>
  m_if (o11.1 = 0) (
  f_X5_readInto_145  o11.2
  ) (
  m_chk (zK o11.2 x0 = 5) (
  m_cal (f_X5_readNumber x0 o11.2) (fun o12 =>
  m_if (o12.1 < 0) (
  f_X5_readInto_145  o12.2
  ) (
  m_chk (zK o12.2 x0 = 5) (
  m_cal (f_X5_skip x0 (32 : Int32) o12.2) (fun o13 =>
  m_if (o13.1 = 0) (
  f_X5_readInto_145  o13.2
  ) (
  m_chk (zK o13.2 x0 = 5) (
  m_cal (f_X5_readMoveNumber x0 x1 o13.2) (fun o14 =>
  m_if (o14.1 = 0) (
  f_X5_readInto_145  o14.2
  ) (
  m_chk (zK o14.2 x0 = 5) (
  m_chk (zK o14.2 x0 = 5) (
  m_cal (zP o14.2 0 x0) (fun b15 =>
  m_chk (zK o14.2 b15 = 6) (
  m_cal (f_X6_size b15 o14.2) (fun o16 =>
  m_if ((zI o14.2 1 x0) = o16.1) (
  m_cal (f_X5_hasSoundMen x1 o16.2) (fun o17 =>
  m_if (o17.1 = 0) (
  f_X5_readInto_145  o17.2
  ) (
  m_cal (f_X5_hasSoundRights x1 o17.2) (fun o18 =>
  m_if (o18.1 = 0) (
  f_X5_readInto_145  o18.2
  ) (
  m_cal (f_X5_hasSoundPassed x1 o18.2) (fun o19 =>
  m_if (o19.1 = 0) (
  f_X5_readInto_145  o19.2
  ) (
  f_X5_readInto_146 (1 : Int32) o19.2
  ))
  ))
  ))
  ) (
  f_X5_readInto_145  o16.2
  ))))))
  )))
  )))
  )))
  )))
  )))
  )))
  )))
  )))
  )))
  )))
  )))))))))
def f_X5_readInto (x0 : Nat) (x1 : Nat) (x2 : Nat) (S : ZS) : Option (Int32 × ZS) := f_X5_readInto_0 x0 x1 x2 S
def f_X6_indexOf_30 (x3 : Int32) (S : ZS) : Option (Int32 × ZS) :=
  some (x3, S)
def f_X6_indexOf_6s (self6 : Nat → Int32 → Int32 → ZS → Option (Int32 × ZS)) (x0 : Nat) (x1 : Int32) (x3 : Int32) (S : ZS) : Option (Int32 × ZS) :=
  m_chk (zK S x0 = 6) (
  m_if ((zI S 1 x0) ≤ x3) (
  f_X6_indexOf_30 x3 S
  ) (
  m_chk (zK S x0 = 6) (
  m_cal (zP S 0 x0) (fun b1 =>
  m_chk (zK S b1 = 13) (
  m_chk (¬ (x3 < 0 ∨ zN S b1 ≤ (x3).toNatClampNeg)) (
  m_bnd (zA S b1 (x3).toNatClampNeg) (fun v2 =>
  m_if (v2 = x1) (
  f_X6_indexOf_30 x3 S
  ) (
  m_bnd (x3 + (1 : Int32)) (fun v3 =>
  self6 x0 x1 v3 S)
  ))))))
  ))
def f_X6_indexOf_6 : Nat → Nat → Int32 → Int32 → ZS → Option (Int32 × ZS)
  | 0 => fun _ _ _ _ => none
  | n + 1 => f_X6_indexOf_6s (f_X6_indexOf_6 n)
def f_X6_indexOf_0 (x0 : Nat) (x1 : Int32) (x2 : Int32) (S : ZS) : Option (Int32 × ZS) :=
  m_bnd (if x2 < (0 : Int32) then (0 : Int32) else x2) (fun v1 =>
  f_X6_indexOf_6 mFuel x0 x1 v1 S)
def f_X6_indexOf (x0 : Nat) (x1 : Int32) (x2 : Int32) (S : ZS) : Option (Int32 × ZS) := f_X6_indexOf_0 x0 x1 x2 S
def f_X2_resultHere_2s (self2 : Nat → Int32 → ZS → Option (Int32 × ZS)) (x0 : Nat) (x1 : Int32) (S : ZS) : Option (Int32 × ZS) :=
  m_if ((4 : Int32) ≤ x1) (
  some ((-1 : Int32), S)
  ) (
  m_chk (zK S x0 = 2) (
  m_cal (zP S 2 x0) (fun b1 =>
  m_cal (f_X11_resultSign x1 S) (fun o2 =>
  m_chk (zK o2.2 x0 = 2) (
  m_chk (zK o2.2 b1 = 6) (
  m_cal (f_X6_holds b1 o2.1 (zI o2.2 4 x0) o2.2) (fun o3 =>
  m_if (o3.1 = 0) (
  m_bnd (x1 + (1 : Int32)) (fun v4 =>
  self2 x0 v4 o3.2)
  ) (
  some (x1, o3.2)
  )))))))
  )
def f_X2_resultHere_2 : Nat → Nat → Int32 → ZS → Option (Int32 × ZS)
  | 0 => fun _ _ _ => none
  | n + 1 => f_X2_resultHere_2s (f_X2_resultHere_2 n)
def f_X2_resultHere_0 (x0 : Nat) (S : ZS) : Option (Int32 × ZS) :=
  f_X2_resultHere_2 mFuel x0 (0 : Int32) S
def f_X2_resultHere (x0 : Nat) (S : ZS) : Option (Int32 × ZS) := f_X2_resultHere_0 x0 S
def f_X2_openLine_0 (x0 : Nat) (x1 : Int32) (S : ZS) : Option (Int32 × ZS) :=
  m_chk (zK S x0 = 2) (
  m_cal (zP S 8 x0) (fun b1 =>
  m_chk (zK S x0 = 2) (
  m_cal (zP S 3 x0) (fun b2 =>
  m_chk (zK S x0 = 2) (
  m_cal (zP S 9 x0) (fun b3 =>
  m_bnd (x1 - (1 : Int32)) (fun v4 =>
  m_chk (zK S b3 = 14) (
  m_chk (¬ (v4 < 0 ∨ zN S b3 ≤ (v4).toNatClampNeg)) (
  m_bnd (zA S b3 (v4).toNatClampNeg) (fun v5 =>
  m_chk (zK S b2 = 1) (
  m_cal (f_X1_at b2 v5 S) (fun o6 =>
  m_chk (zK o6.2 o6.1 = 4) (
  m_chk (zK o6.2 b1 = 14) (
  m_chk (¬ (x1 < 0 ∨ zN o6.2 b1 ≤ (x1).toNatClampNeg)) (
  m_bnd (zsA o6.2 b1 (x1).toNatClampNeg (zI o6.2 0 o6.1)) (fun S7 =>
  m_chk (zK S7 x0 = 2) (
  m_cal (zP S7 9 x0) (fun b8 =>
  m_chk (zK S7 x0 = 2) (
  m_cal (zP S7 8 x0) (fun b9 =>
  m_chk (zK S7 b9 = 14) (
  m_chk (¬ (x1 < 0 ∨ zN S7 b9 ≤ (x1).toNatClampNeg)) (
  m_bnd (zA S7 b9 (x1).toNatClampNeg) (fun v10 =>
  m_chk (zK S7 b8 = 14) (
  m_chk (¬ (x1 < 0 ∨ zN S7 b8 ≤ (x1).toNatClampNeg)) (
  m_bnd (zsA S7 b8 (x1).toNatClampNeg v10) (fun S11 =>
  m_chk (zK S11 x0 = 2) (
  m_cal (zP S11 11 x0) (fun b12 =>
  m_chk (zK S11 b12 = 15) (
  m_chk (¬ (x1 < 0 ∨ zN S11 b12 ≤ (x1).toNatClampNeg)) (
  m_cal (zB S11 b12 (x1).toNatClampNeg) (fun b13 =>
  m_chk (zK S11 x0 = 2) (
  m_cal (zP S11 10 x0) (fun b14 =>
  m_bnd (x1 - (1 : Int32)) (fun v15 =>
  m_chk (zK S11 b14 = 15) (
  m_chk (¬ (v15 < 0 ∨ zN S11 b14 ≤ (v15).toNatClampNeg)) (
  m_cal (zB S11 b14 (v15).toNatClampNeg) (fun b16 =>
  m_chk (zK S11 b13 = 0) (
  m_cal (f_X0_copyFrom b13 b16 S11) (fun o17 =>
  m_chk (zK o17.2 x0 = 2) (
  m_bnd ((zI o17.2 4 x0) + (1 : Int32)) (fun v18 =>
  m_chk (zK o17.2 x0 = 2) (
  m_bnd (zsI o17.2 4 x0 v18) (fun S19 =>
  some (0, S19))))))))))))))))))))))))))))))))))))))))))))
def f_X2_openLine (x0 : Nat) (x1 : Int32) (S : ZS) : Option (Int32 × ZS) := f_X2_openLine_0 x0 x1 S
def f_X2_readDigits_67 (x3 : Int32) (S : ZS) : Option (Int32 × ZS) :=
  some (x3, S)
def f_X2_readDigits_9s (self9 : Nat → Int32 → Int32 → ZS → Option (Int32 × ZS)) (x0 : Nat) (x2 : Int32) (x3 : Int32) (S : ZS) : Option (Int32 × ZS) :=
  m_chk (zK S x0 = 2) (
  m_if (x2 ≤ (zI S 4 x0)) (
  f_X2_readDigits_67 x3 S
  ) (
  m_chk (zK S x0 = 2) (
  m_cal (zP S 2 x0) (fun b1 =>
  m_chk (zK S x0 = 2) (
  m_chk (zK S b1 = 6) (
  m_cal (f_X6_at b1 (zI S 4 x0) S) (fun o2 =>
  m_cal (f_X11_isDigit o2.1 o2.2) (fun o3 =>
  m_if (o3.1 = 0) (
  f_X2_readDigits_67 x3 o3.2
  ) (
  m_bnd ((10 : Int32) * x3) (fun v4 =>
  m_chk (zK o3.2 x0 = 2) (
  m_cal (zP o3.2 2 x0) (fun b5 =>
  m_chk (zK o3.2 x0 = 2) (
  m_chk (zK o3.2 b5 = 6) (
  m_cal (f_X6_at b5 (zI o3.2 4 x0) o3.2) (fun o6 =>
  m_bnd (v4 + o6.1) (fun v7 =>
  m_bnd (v7 - (48 : Int32)) (fun v8 =>
  m_chk (zK o6.2 x0 = 2) (
  m_bnd ((zI o6.2 4 x0) + (1 : Int32)) (fun v9 =>
  m_chk (zK o6.2 x0 = 2) (
  m_bnd (zsI o6.2 4 x0 v9) (fun S10 =>
  self9 x0 x2 v8 S10))))))))))))
  )))))))
  ))
def f_X2_readDigits_9 : Nat → Nat → Int32 → Int32 → ZS → Option (Int32 × ZS)
  | 0 => fun _ _ _ _ => none
  | n + 1 => f_X2_readDigits_9s (f_X2_readDigits_9 n)
def f_X2_readDigits_0 (x0 : Nat) (x1 : Int32) (S : ZS) : Option (Int32 × ZS) :=
  m_chk (zK S x0 = 2) (
  m_bnd ((zI S 4 x0) + x1) (fun v1 =>
  f_X2_readDigits_9 mFuel x0 v1 (0 : Int32) S))
def f_X2_readDigits (x0 : Nat) (x1 : Int32) (S : ZS) : Option (Int32 × ZS) := f_X2_readDigits_0 x0 x1 S
def f_X2_readNumber_78 (t0 : Int32) (S : ZS) : Option (Int32 × ZS) :=
  m_chk (vp_nar .boolean t0 = t0) (some (t0, S))
def f_X2_readNumber_73 (S : ZS) : Option (Int32 × ZS) :=
  f_X2_readNumber_78 (1 : Int32) S
def f_X2_readNumber_54 (x0 : Nat) (x1 : Int32) (x2 : Int32) (x3 : Int32) (S : ZS) : Option (Int32 × ZS) :=
  m_chk (zK S x0 = 2) (
  m_cal (f_X2_skipBlanks x0 S) (fun o1 =>
  m_if (x3 = x1) (
  f_X2_readNumber_73  o1.2
  ) (
  m_chk (zK o1.2 x0 = 2) (
  m_cal (f_X2_refuse x0 (7 : Int32) x2 o1.2) (fun o2 =>
  m_if (o2.1 = 0) (
  f_X2_readNumber_78 (0 : Int32) o2.2
  ) (
  f_X2_readNumber_73  o2.2
  )))
  )))
def f_X2_readNumber_11s (self11 : Nat → Int32 → Int32 → Int32 → ZS → Option (Int32 × ZS)) (x0 : Nat) (x1 : Int32) (x2 : Int32) (x3 : Int32) (S : ZS) : Option (Int32 × ZS) :=
  m_chk (zK S x0 = 2) (
  m_chk (zK S x0 = 2) (
  m_cal (zP S 2 x0) (fun b1 =>
  m_chk (zK S b1 = 6) (
  m_cal (f_X6_size b1 S) (fun o2 =>
  m_if (o2.1 ≤ (zI S 4 x0)) (
  f_X2_readNumber_54 x0 x1 x2 x3 o2.2
  ) (
  m_chk (zK o2.2 x0 = 2) (
  m_cal (zP o2.2 2 x0) (fun b3 =>
  m_chk (zK o2.2 x0 = 2) (
  m_chk (zK o2.2 b3 = 6) (
  m_cal (f_X6_at b3 (zI o2.2 4 x0) o2.2) (fun o4 =>
  m_if (o4.1 = (46 : Int32)) (
  m_chk (zK o4.2 x0 = 2) (
  m_bnd ((zI o4.2 4 x0) + (1 : Int32)) (fun v5 =>
  m_chk (zK o4.2 x0 = 2) (
  m_bnd (zsI o4.2 4 x0 v5) (fun S6 =>
  self11 x0 x1 x2 x3 S6))))
  ) (
  f_X2_readNumber_54 x0 x1 x2 x3 o4.2
  ))))))
  ))))))
def f_X2_readNumber_11 : Nat → Nat → Int32 → Int32 → Int32 → ZS → Option (Int32 × ZS)
  | 0 => fun _ _ _ _ _ => none
  | n + 1 => f_X2_readNumber_11s (f_X2_readNumber_11 n)
def f_X2_readNumber_0 (x0 : Nat) (x1 : Int32) (S : ZS) : Option (Int32 × ZS) :=
  m_chk (zK S x0 = 2) (
  m_chk (zK S x0 = 2) (
  m_cal (f_X2_readDigits x0 (4 : Int32) S) (fun o1 =>
  f_X2_readNumber_11 mFuel x0 x1 (zI S 4 x0) o1.1 o1.2)))
def f_X2_readNumber (x0 : Nat) (x1 : Int32) (S : ZS) : Option (Int32 × ZS) := f_X2_readNumber_0 x0 x1 S
def f_X2_isSign_43 (t0 : Int32) (S : ZS) : Option (Int32 × ZS) :=
  m_chk (vp_nar .boolean t0 = t0) (some (t0, S))
def f_X2_isSign_38 (S : ZS) : Option (Int32 × ZS) :=
  f_X2_isSign_43 (1 : Int32) S
def f_X2_isSign_0 (x0 : Int32) (S : ZS) : Option (Int32 × ZS) :=
  m_cal (f_X11_isLetter x0 S) (fun o1 =>
  m_if (o1.1 = 0) (
  m_cal (f_X11_isDigit x0 o1.2) (fun o2 =>
  m_if (o2.1 = 0) (
  m_if (x0 = (61 : Int32)) (
  f_X2_isSign_38  o2.2
  ) (
  m_if (x0 = (45 : Int32)) (
  f_X2_isSign_38  o2.2
  ) (
  m_if (x0 = (43 : Int32)) (
  f_X2_isSign_38  o2.2
  ) (
  m_if (x0 = (35 : Int32)) (
  f_X2_isSign_38  o2.2
  ) (
  f_X2_isSign_43 (0 : Int32) o2.2
  )
  )
  )
  )
  ) (
  f_X2_isSign_38  o2.2
  ))
  ) (
  f_X2_isSign_38  o1.2
  ))
def f_X2_isSign (x0 : Int32) (S : ZS) : Option (Int32 × ZS) := f_X2_isSign_0 x0 S
def f_X2_skipSigns_44 (S : ZS) : Option (Int32 × ZS) :=
  some (0, S)
def f_X2_skipSigns_0s (self0 : Nat → ZS → Option (Int32 × ZS)) (x0 : Nat) (S : ZS) : Option (Int32 × ZS) :=
  m_chk (zK S x0 = 2) (
  m_chk (zK S x0 = 2) (
  m_cal (zP S 2 x0) (fun b1 =>
  m_chk (zK S b1 = 6) (
  m_cal (f_X6_size b1 S) (fun o2 =>
  m_if (o2.1 ≤ (zI S 4 x0)) (
  f_X2_skipSigns_44  o2.2
  ) (
  m_chk (zK o2.2 x0 = 2) (
  m_cal (zP o2.2 2 x0) (fun b3 =>
  m_chk (zK o2.2 x0 = 2) (
  m_chk (zK o2.2 b3 = 6) (
  m_cal (f_X6_at b3 (zI o2.2 4 x0) o2.2) (fun o4 =>
  m_cal (f_X2_isSign o4.1 o4.2) (fun o5 =>
  m_if (o5.1 = 0) (
  f_X2_skipSigns_44  o5.2
  ) (
  m_chk (zK o5.2 x0 = 2) (
  m_bnd ((zI o5.2 4 x0) + (1 : Int32)) (fun v6 =>
  m_chk (zK o5.2 x0 = 2) (
  m_bnd (zsI o5.2 4 x0 v6) (fun S7 =>
  self0 x0 S7))))
  )))))))
  ))))))
def f_X2_skipSigns_0 : Nat → Nat → ZS → Option (Int32 × ZS)
  | 0 => fun _ _ => none
  | n + 1 => f_X2_skipSigns_0s (f_X2_skipSigns_0 n)
def f_X2_skipSigns (x0 : Nat) (S : ZS) : Option (Int32 × ZS) := f_X2_skipSigns_0 mFuel x0 S
def f_X11_kindOf_0 (x0 : Int32) (S : ZS) : Option (Int32 × ZS) :=
  m_chk (9 < zSn) (
  m_cal (f_J0_indexOf_0f7a4 9 x0 S) (fun o1 =>
  m_bnd (o1.1 + (1 : Int32)) (fun v2 =>
  some (v2, o1.2))))
def f_X11_kindOf (x0 : Int32) (S : ZS) : Option (Int32 × ZS) := f_X11_kindOf_0 x0 S
def f_X8_parseApart_104 (t0 : Int32) (S : ZS) : Option (Int32 × ZS) :=
  m_chk (vp_nar .boolean t0 = t0) (some (t0, S))
def f_X8_parseApart_94 (x2 : Int32) (x3 : Int32) (S : ZS) : Option (Int32 × ZS) :=
  m_if (x3 = x2) (
  f_X8_parseApart_104 (1 : Int32) S
  ) (
  f_X8_parseApart_104 (0 : Int32) S
  )
def f_X8_parseApart_49 (x0 : Nat) (x2 : Int32) (x3 : Int32) (S : ZS) : Option (Int32 × ZS) :=
  m_if (x2 ≤ x3) (
  f_X8_parseApart_94 x2 x3 S
  ) (
  m_chk (zK S x0 = 8) (
  m_if ((zI S 3 x0) = (1 : Int32)) (
  f_X8_parseApart_94 x2 x3 S
  ) (
  m_chk (zK S x0 = 8) (
  m_cal (zP S 1 x0) (fun b1 =>
  m_chk (zK S b1 = 6) (
  m_cal (f_X6_at b1 x3 S) (fun o2 =>
  m_cal (f_X11_isRank o2.1 o2.2) (fun o3 =>
  m_if (o3.1 = 0) (
  f_X8_parseApart_94 x2 x3 o3.2
  ) (
  m_chk (zK o3.2 x0 = 8) (
  m_cal (zP o3.2 1 x0) (fun b4 =>
  m_chk (zK o3.2 b4 = 6) (
  m_cal (f_X6_at b4 x3 o3.2) (fun o5 =>
  m_bnd (o5.1 - (49 : Int32)) (fun v6 =>
  m_chk (zK o5.2 x0 = 8) (
  m_bnd (zsI o5.2 5 x0 v6) (fun S7 =>
  m_bnd (x3 + (1 : Int32)) (fun v8 =>
  f_X8_parseApart_94 x2 v8 S7))))))))
  ))))))
  ))
  )
def f_X8_parseApart_0 (x0 : Nat) (x1 : Int32) (x2 : Int32) (S : ZS) : Option (Int32 × ZS) :=
  m_chk (zK S x0 = 8) (
  m_bnd (zsI S 4 x0 (-1 : Int32)) (fun S1 =>
  m_chk (zK S1 x0 = 8) (
  m_bnd (zsI S1 5 x0 (-1 : Int32)) (fun S2 =>
  m_if (x2 ≤ x1) (
  f_X8_parseApart_49 x0 x2 x1 S2
  ) (
  m_chk (zK S2 x0 = 8) (
  m_cal (zP S2 1 x0) (fun b3 =>
  m_chk (zK S2 b3 = 6) (
  m_cal (f_X6_at b3 x1 S2) (fun o4 =>
  m_cal (f_X11_isFile o4.1 o4.2) (fun o5 =>
  m_if (o5.1 = 0) (
  f_X8_parseApart_49 x0 x2 x1 o5.2
  ) (
  m_chk (zK o5.2 x0 = 8) (
  m_cal (zP o5.2 1 x0) (fun b6 =>
  m_chk (zK o5.2 b6 = 6) (
  m_cal (f_X6_at b6 x1 o5.2) (fun o7 =>
  m_bnd (o7.1 - (97 : Int32)) (fun v8 =>
  m_chk (zK o7.2 x0 = 8) (
  m_bnd (zsI o7.2 4 x0 v8) (fun S9 =>
  m_bnd (x1 + (1 : Int32)) (fun v10 =>
  f_X8_parseApart_49 x0 x2 v10 S9))))))))
  ))))))
  )))))
def f_X8_parseApart (x0 : Nat) (x1 : Int32) (x2 : Int32) (S : ZS) : Option (Int32 × ZS) := f_X8_parseApart_0 x0 x1 x2 S
def f_X8_parse_232 (x0 : Nat) (x1 : Int32) (x2 : Int32) (t0 : Int32) (t1 : Nat) (S : ZS) : Option (Int32 × ZS) :=
  m_chk (zK S t1 = 8) (
  m_bnd (zsI S 8 t1 t0) (fun S1 =>
  m_chk (zK S1 x0 = 8) (
  m_bnd (x2 - (zI S1 8 x0)) (fun v2 =>
  m_chk (zK S1 x0 = 8) (
  m_cal (f_X8_parseApart x0 x1 v2 S1) (fun o3 =>
  m_chk (vp_nar .boolean o3.1 = o3.1) (some (o3.1, o3.2))))))))
def f_X8_parse_231 (x0 : Nat) (x1 : Int32) (x2 : Int32) (t0 : Nat) (S : ZS) : Option (Int32 × ZS) :=
  f_X8_parse_232 x0 x1 x2 (0 : Int32) t0 S
def f_X8_parse_166 (x0 : Nat) (x1 : Int32) (x2 : Int32) (S : ZS) : Option (Int32 × ZS) :=
  m_chk (zK S x0 = 8) (
  m_cal (zP S 1 x0) (fun b1 =>
  m_bnd (x2 - (2 : Int32)) (fun v2 =>
  m_chk (zK S b1 = 6) (
  m_cal (f_X6_at b1 v2 S) (fun o3 =>
  m_chk (zK o3.2 x0 = 8) (
  m_cal (zP o3.2 1 x0) (fun b4 =>
  m_bnd (x2 - (1 : Int32)) (fun v5 =>
  m_chk (zK o3.2 b4 = 6) (
  m_cal (f_X6_at b4 v5 o3.2) (fun o6 =>
  m_cal (f_X11_squareOf o3.1 o6.1 o6.2) (fun o7 =>
  m_chk (zK o7.2 x0 = 8) (
  m_bnd (zsI o7.2 6 x0 o7.1) (fun S8 =>
  m_bnd (x2 + (-2 : Int32)) (fun v9 =>
  m_chk (zK S8 x0 = 8) (
  m_if ((zI S8 6 x0) = (-1 : Int32)) (
  m_chk (vp_nar .boolean (0 : Int32) = (0 : Int32)) (some ((0 : Int32), S8))
  ) (
  m_if (v9 ≤ x1) (
  f_X8_parse_231 x0 x1 v9 x0 S8
  ) (
  m_chk (zK S8 x0 = 8) (
  m_cal (zP S8 1 x0) (fun b10 =>
  m_bnd (v9 - (1 : Int32)) (fun v11 =>
  m_chk (zK S8 b10 = 6) (
  m_cal (f_X6_at b10 v11 S8) (fun o12 =>
  m_if (o12.1 = (120 : Int32)) (
  f_X8_parse_232 x0 x1 v9 (1 : Int32) x0 o12.2
  ) (
  f_X8_parse_231 x0 x1 v9 x0 o12.2
  ))))))
  )
  ))))))))))))))))
def f_X8_parse_161 (S : ZS) : Option (Int32 × ZS) :=
  m_chk (vp_nar .boolean (0 : Int32) = (0 : Int32)) (some ((0 : Int32), S))
def f_X8_parse_102 (x0 : Nat) (x1 : Int32) (x2 : Int32) (t0 : Int32) (t1 : Nat) (S : ZS) : Option (Int32 × ZS) :=
  m_chk (zK S t1 = 8) (
  m_bnd (zsI S 3 t1 t0) (fun S1 =>
  m_chk (zK S1 x0 = 8) (
  m_if ((zI S1 3 x0) = (1 : Int32)) (
  m_chk (zK S1 x0 = 8) (
  m_cal (zP S1 1 x0) (fun b2 =>
  m_bnd (x2 - (2 : Int32)) (fun v3 =>
  m_chk (zK S1 b2 = 6) (
  m_cal (f_X6_at b2 v3 S1) (fun o4 =>
  m_if (o4.1 = (61 : Int32)) (
  m_chk (zK o4.2 x0 = 8) (
  m_cal (zP o4.2 1 x0) (fun b5 =>
  m_bnd (x2 - (1 : Int32)) (fun v6 =>
  m_chk (zK o4.2 b5 = 6) (
  m_cal (f_X6_at b5 v6 o4.2) (fun o7 =>
  m_cal (f_X11_kindOf o7.1 o7.2) (fun o8 =>
  m_chk (zK o8.2 x0 = 8) (
  m_bnd (zsI o8.2 7 x0 o8.1) (fun S9 =>
  m_chk (zK S9 x0 = 8) (
  m_if ((zI S9 7 x0) < (2 : Int32)) (
  f_X8_parse_161  S9
  ) (
  m_chk (zK S9 x0 = 8) (
  m_if ((zI S9 7 x0) ≤ (5 : Int32)) (
  m_bnd (x2 + (-2 : Int32)) (fun v10 =>
  f_X8_parse_166 x0 x1 v10 S9)
  ) (
  f_X8_parse_161  S9
  ))
  ))))))))))
  ) (
  f_X8_parse_166 x0 x1 x2 o4.2
  ))))))
  ) (
  f_X8_parse_166 x0 x1 x2 S1
  ))))
def f_X8_parse_72 (x0 : Nat) (t0 : Int32) (S : ZS) : Option (Int32 × ZS) :=
  m_chk (zK S x0 = 8) (
  m_cal (zP S 1 x0) (fun b1 =>
  m_chk (zK S b1 = 6) (
  m_cal (f_X6_size b1 S) (fun o2 =>
  m_if (t0 = (1 : Int32)) (
  m_chk (zK o2.2 x0 = 8) (
  m_cal (zP o2.2 1 x0) (fun b3 =>
  m_chk (zK o2.2 b3 = 6) (
  m_cal (f_X6_at b3 (0 : Int32) o2.2) (fun o4 =>
  m_cal (f_X11_kindOf o4.1 o4.2) (fun o5 =>
  f_X8_parse_102 x0 t0 o2.1 o5.1 x0 o5.2)))))
  ) (
  f_X8_parse_102 x0 t0 o2.1 (1 : Int32) x0 o2.2
  )))))
def f_X8_parse_40 (x0 : Nat) (t0 : Int32) (t1 : Nat) (S : ZS) : Option (Int32 × ZS) :=
  m_chk (zK S t1 = 8) (
  m_bnd (zsI S 2 t1 t0) (fun S1 =>
  m_chk (zK S1 x0 = 8) (
  m_if ((zI S1 2 x0) = 0) (
  m_chk (zK S1 x0 = 8) (
  m_cal (zP S1 1 x0) (fun b2 =>
  m_chk (zK S1 b2 = 6) (
  m_cal (f_X6_at b2 (0 : Int32) S1) (fun o3 =>
  m_cal (f_X11_kindOf o3.1 o3.2) (fun o4 =>
  m_if (o4.1 < (2 : Int32)) (
  f_X8_parse_72 x0 (0 : Int32) o4.2
  ) (
  f_X8_parse_72 x0 (1 : Int32) o4.2
  ))))))
  ) (
  m_chk (vp_nar .boolean (1 : Int32) = (1 : Int32)) (some ((1 : Int32), S1))
  ))))
def f_X8_parse_0 (x0 : Nat) (S : ZS) : Option (Int32 × ZS) :=
  m_chk (zK S x0 = 8) (
  m_bnd (zsI S 7 x0 (0 : Int32)) (fun S1 =>
  m_chk (zK S1 x0 = 8) (
  m_cal (zP S1 1 x0) (fun b2 =>
  m_chk (zK S1 b2 = 6) (
  m_cal (f_X6_is b2 7 S1) (fun o3 =>
  m_if (o3.1 = 0) (
  m_chk (zK o3.2 x0 = 8) (
  m_cal (zP o3.2 1 x0) (fun b4 =>
  m_chk (zK o3.2 b4 = 6) (
  m_cal (f_X6_is b4 8 o3.2) (fun o5 =>
  m_if (o5.1 = 0) (
  f_X8_parse_40 x0 (0 : Int32) x0 o5.2
  ) (
  f_X8_parse_40 x0 (-2 : Int32) x0 o5.2
  )))))
  ) (
  f_X8_parse_40 x0 (2 : Int32) x0 o3.2
  )))))))
def f_X8_parse (x0 : Nat) (S : ZS) : Option (Int32 × ZS) := f_X8_parse_0 x0 S
def f_X8_fitsFrom_70 (S : ZS) : Option (Int32 × ZS) :=
  m_chk (vp_nar .boolean (0 : Int32) = (0 : Int32)) (some ((0 : Int32), S))
def f_X8_fitsFrom_158 (t0 : Int32) (S : ZS) : Option (Int32 × ZS) :=
  m_chk (vp_nar .boolean t0 = t0) (some (t0, S))
def f_X8_fitsFrom_157 (S : ZS) : Option (Int32 × ZS) :=
  f_X8_fitsFrom_158 (0 : Int32) S
def f_X8_fitsFrom_150 (t0 : Int32) (t1 : Int32) (S : ZS) : Option (Int32 × ZS) :=
  m_if (t1 = t0) (
  f_X8_fitsFrom_158 (1 : Int32) S
  ) (
  f_X8_fitsFrom_157  S
  )
def f_X8_fitsFrom_129 (x0 : Nat) (x1 : Nat) (x2 : Int32) (S : ZS) : Option (Int32 × ZS) :=
  m_chk (zK S x0 = 8) (
  m_chk (zK S x1 = 0) (
  m_cal (f_X0_becomesAnother x1 x2 (zI S 6 x0) S) (fun o1 =>
  m_chk (zK o1.2 x0 = 8) (
  m_if ((zI o1.2 7 x0) = 0) (
  f_X8_fitsFrom_150 (0 : Int32) o1.1 o1.2
  ) (
  f_X8_fitsFrom_150 (1 : Int32) o1.1 o1.2
  )))))
def f_X8_fitsFrom_126 (x0 : Nat) (x1 : Nat) (x2 : Int32) (t0 : Int32) (t1 : Int32) (S : ZS) : Option (Int32 × ZS) :=
  m_if (t1 = t0) (
  f_X8_fitsFrom_129 x0 x1 x2 S
  ) (
  f_X8_fitsFrom_157  S
  )
def f_X8_fitsFrom_104 (x0 : Nat) (x1 : Nat) (x2 : Int32) (x3 : Int32) (S : ZS) : Option (Int32 × ZS) :=
  m_chk (zK S x0 = 8) (
  m_if ((zI S 8 x0) = (-1 : Int32)) (
  f_X8_fitsFrom_129 x0 x1 x2 S
  ) (
  m_chk (zK S x0 = 8) (
  m_if ((zI S 8 x0) = (1 : Int32)) (
  f_X8_fitsFrom_126 x0 x1 x2 (1 : Int32) x3 S
  ) (
  f_X8_fitsFrom_126 x0 x1 x2 (0 : Int32) x3 S
  ))
  ))
def f_X8_fitsFrom_72 (x0 : Nat) (x1 : Nat) (x2 : Int32) (S : ZS) : Option (Int32 × ZS) :=
  m_chk (zK S x0 = 8) (
  m_chk (zK S x1 = 0) (
  m_cal (f_X0_takes x1 x2 (zI S 6 x0) S) (fun o1 =>
  m_chk (zK o1.2 x0 = 8) (
  m_if ((zI o1.2 3 x0) = (1 : Int32)) (
  m_if (o1.1 = 0) (
  f_X8_fitsFrom_104 x0 x1 x2 o1.1 o1.2
  ) (
  m_chk (zK o1.2 x0 = 8) (
  m_if ((zI o1.2 4 x0) = (-1 : Int32)) (
  m_chk (vp_nar .boolean (0 : Int32) = (0 : Int32)) (some ((0 : Int32), o1.2))
  ) (
  f_X8_fitsFrom_104 x0 x1 x2 o1.1 o1.2
  ))
  )
  ) (
  f_X8_fitsFrom_104 x0 x1 x2 o1.1 o1.2
  )))))
def f_X8_fitsFrom_52 (x0 : Nat) (x1 : Nat) (x2 : Int32) (S : ZS) : Option (Int32 × ZS) :=
  m_chk (zK S x0 = 8) (
  m_if ((zI S 5 x0) = (-1 : Int32)) (
  f_X8_fitsFrom_72 x0 x1 x2 S
  ) (
  m_chk (zK S x0 = 8) (
  m_bnd (x2 >>> ((3 : Int32) &&& 31)) (fun v1 =>
  m_if ((zI S 5 x0) = v1) (
  f_X8_fitsFrom_72 x0 x1 x2 S
  ) (
  f_X8_fitsFrom_70  S
  )))
  ))
def f_X8_fitsFrom_0 (x0 : Nat) (x1 : Nat) (x2 : Int32) (S : ZS) : Option (Int32 × ZS) :=
  m_chk (zK S x1 = 0) (
  m_cal (zP S 0 x1) (fun b1 =>
  m_chk (zK S b1 = 14) (
  m_chk (¬ (x2 < 0 ∨ zN S b1 ≤ (x2).toNatClampNeg)) (
  m_bnd (zA S b1 (x2).toNatClampNeg) (fun v2 =>
  m_chk (zK S x0 = 8) (
  m_chk (zK S x1 = 0) (
  m_bnd ((8 : Int32) * (zI S 3 x1)) (fun v3 =>
  m_bnd ((zI S 3 x0) + v3) (fun v4 =>
  m_if (v2 = v4) (
  m_chk (zK S x0 = 8) (
  m_chk (zK S x1 = 0) (
  m_cal (f_X0_castles x1 x2 (zI S 6 x0) S) (fun o5 =>
  m_if (o5.1 = 0) (
  m_chk (zK o5.2 x0 = 8) (
  m_if ((zI o5.2 4 x0) = (-1 : Int32)) (
  f_X8_fitsFrom_52 x0 x1 x2 o5.2
  ) (
  m_chk (zK o5.2 x0 = 8) (
  m_bnd (x2 &&& (7 : Int32)) (fun v6 =>
  m_if ((zI o5.2 4 x0) = v6) (
  f_X8_fitsFrom_52 x0 x1 x2 o5.2
  ) (
  f_X8_fitsFrom_70  o5.2
  )))
  ))
  ) (
  f_X8_fitsFrom_70  o5.2
  ))))
  ) (
  f_X8_fitsFrom_70  S
  ))))))))))
def f_X8_fitsFrom (x0 : Nat) (x1 : Nat) (x2 : Int32) (S : ZS) : Option (Int32 × ZS) := f_X8_fitsFrom_0 x0 x1 x2 S
def f_X7_isSafe_105 (t0 : Int32) (S : ZS) : Option (Int32 × ZS) :=
  m_chk (vp_nar .boolean t0 = t0) (some (t0, S))
def f_X7_isSafe_61 (x0 : Nat) (x1 : Nat) (x2 : Int32) (x5 : Int32) (S : ZS) : Option (Int32 × ZS) :=
  m_chk (zK S x0 = 7) (
  m_cal (zP S 0 x0) (fun b1 =>
  m_chk (zK S b1 = 0) (
  m_cal (f_X0_copyFrom b1 x1 S) (fun o2 =>
  m_chk (zK o2.2 x0 = 7) (
  m_cal (zP o2.2 0 x0) (fun b3 =>
  m_chk (zK o2.2 b3 = 0) (
  m_cal (f_X0_play b3 x2 o2.2) (fun o4 =>
  m_chk (zK o4.2 x0 = 7) (
  m_cal (zP o4.2 0 x0) (fun b5 =>
  m_chk (zK o4.2 x0 = 7) (
  m_cal (zP o4.2 0 x0) (fun b6 =>
  m_chk (zK o4.2 b6 = 0) (
  m_cal (f_X0_kingOf b6 x5 o4.2) (fun o7 =>
  m_bnd ((1 : Int32) - x5) (fun v8 =>
  m_chk (zK o7.2 b5 = 0) (
  m_cal (f_X0_attacked b5 o7.1 v8 o7.2) (fun o9 =>
  m_if (o9.1 = 0) (
  f_X7_isSafe_105 (1 : Int32) o9.2
  ) (
  f_X7_isSafe_105 (0 : Int32) o9.2
  ))))))))))))))))))
def f_X7_isSafe_59 (S : ZS) : Option (Int32 × ZS) :=
  m_chk (vp_nar .boolean (0 : Int32) = (0 : Int32)) (some ((0 : Int32), S))
def f_X7_isSafe_0 (x0 : Nat) (x1 : Nat) (x2 : Int32) (S : ZS) : Option (Int32 × ZS) :=
  m_bnd (x2 &&& (63 : Int32)) (fun v1 =>
  m_bnd (x2 >>> ((6 : Int32) &&& 31)) (fun v2 =>
  m_bnd (v2 &&& (63 : Int32)) (fun v3 =>
  m_chk (zK S x1 = 0) (
  m_chk (zK S x1 = 0) (
  m_cal (f_X0_castles x1 v1 v3 S) (fun o4 =>
  m_if (o4.1 = 0) (
  f_X7_isSafe_61 x0 x1 x2 (zI S 3 x1) o4.2
  ) (
  m_bnd ((1 : Int32) - (zI S 3 x1)) (fun v5 =>
  m_chk (zK o4.2 x1 = 0) (
  m_cal (f_X0_attacked x1 v1 v5 o4.2) (fun o6 =>
  m_if (o6.1 = 0) (
  m_bnd (v1 + v3) (fun v7 =>
  m_bnd (v7 / (2 : Int32)) (fun v8 =>
  m_bnd ((1 : Int32) - (zI S 3 x1)) (fun v9 =>
  m_chk (zK o6.2 x1 = 0) (
  m_cal (f_X0_attacked x1 v8 v9 o6.2) (fun o10 =>
  m_if (o10.1 = 0) (
  f_X7_isSafe_61 x0 x1 x2 (zI S 3 x1) o10.2
  ) (
  f_X7_isSafe_59  o10.2
  ))))))
  ) (
  f_X7_isSafe_59  o6.2
  ))))
  )))))))
def f_X7_isSafe (x0 : Nat) (x1 : Nat) (x2 : Int32) (S : ZS) : Option (Int32 × ZS) := f_X7_isSafe_0 x0 x1 x2 S
def f_X8_gather_155 (self38 : Nat → Nat → Int32 → Int32 → ZS → Option (Int32 × ZS)) (x0 : Nat) (x1 : Nat) (x2 : Int32) (x3 : Int32) (S : ZS) : Option (Int32 × ZS) :=
  m_bnd (x3 + (1 : Int32)) (fun v1 =>
  self38 x0 x1 x2 v1 S)
def f_X8_gather_82 (self38 : Nat → Nat → Int32 → Int32 → ZS → Option (Int32 × ZS)) (x0 : Nat) (x1 : Nat) (x2 : Int32) (x3 : Int32) (t0 : Int32) (S : ZS) : Option (Int32 × ZS) :=
  m_chk (zK S x0 = 8) (
  m_bnd ((64 : Int32) * (zI S 6 x0)) (fun v1 =>
  m_bnd (x3 + v1) (fun v2 =>
  m_chk (zK S x0 = 8) (
  m_bnd ((4096 : Int32) * (zI S 7 x0)) (fun v3 =>
  m_bnd (v2 + v3) (fun v4 =>
  m_if (t0 = 0) (
  f_X8_gather_155 self38 x0 x1 x2 x3 S
  ) (
  m_chk (zK S x0 = 8) (
  m_chk (zK S x1 = 0) (
  m_cal (f_X0_reaches x1 x3 (zI S 6 x0) S) (fun o5 =>
  m_if (o5.1 = 0) (
  f_X8_gather_155 self38 x0 x1 x2 x3 o5.2
  ) (
  m_chk (zK o5.2 x0 = 8) (
  m_cal (zP o5.2 0 x0) (fun b6 =>
  m_chk (zK o5.2 b6 = 7) (
  m_cal (f_X7_isSafe b6 x1 v4 o5.2) (fun o7 =>
  m_if (o7.1 = 0) (
  f_X8_gather_155 self38 x0 x1 x2 x3 o7.2
  ) (
  m_chk (zK o7.2 x0 = 8) (
  m_cal (zP o7.2 10 x0) (fun b8 =>
  m_chk (zK o7.2 x0 = 8) (
  m_chk (zK o7.2 b8 = 14) (
  m_chk (¬ ((zI o7.2 11 x0) < 0 ∨ zN o7.2 b8 ≤ ((zI o7.2 11 x0)).toNatClampNeg)) (
  m_bnd (zsA o7.2 b8 ((zI o7.2 11 x0)).toNatClampNeg v4) (fun S9 =>
  m_chk (zK S9 x0 = 8) (
  m_bnd ((zI S9 11 x0) + (1 : Int32)) (fun v10 =>
  m_chk (zK S9 x0 = 8) (
  m_bnd (zsI S9 11 x0 v10) (fun S11 =>
  f_X8_gather_155 self38 x0 x1 x2 x3 S11))))))))))
  )))))
  ))))
  )))))))
def f_X8_gather_72 (self38 : Nat → Nat → Int32 → Int32 → ZS → Option (Int32 × ZS)) (x0 : Nat) (x1 : Nat) (x2 : Int32) (x3 : Int32) (S : ZS) : Option (Int32 × ZS) :=
  f_X8_gather_82 self38 x0 x1 x2 x3 (0 : Int32) S
def f_X8_gather_38s (self38 : Nat → Nat → Int32 → Int32 → ZS → Option (Int32 × ZS)) (x0 : Nat) (x1 : Nat) (x2 : Int32) (x3 : Int32) (S : ZS) : Option (Int32 × ZS) :=
  m_if ((64 : Int32) ≤ x3) (
  some (0, S)
  ) (
  m_chk (zK S x0 = 8) (
  m_if ((zI S 2 x0) = 0) (
  m_chk (zK S x0 = 8) (
  m_cal (f_X8_fitsFrom x0 x1 x3 S) (fun o1 =>
  f_X8_gather_82 self38 x0 x1 x2 x3 o1.1 o1.2))
  ) (
  m_if (x3 = x2) (
  m_chk (zK S x0 = 8) (
  m_chk (zK S x1 = 0) (
  m_cal (f_X0_castles x1 x3 (zI S 6 x0) S) (fun o2 =>
  m_if (o2.1 = 0) (
  f_X8_gather_72 self38 x0 x1 x2 x3 o2.2
  ) (
  f_X8_gather_82 self38 x0 x1 x2 x3 (1 : Int32) o2.2
  ))))
  ) (
  f_X8_gather_72 self38 x0 x1 x2 x3 S
  )
  ))
  )
def f_X8_gather_38 : Nat → Nat → Nat → Int32 → Int32 → ZS → Option (Int32 × ZS)
  | 0 => fun _ _ _ _ _ => none
  | n + 1 => f_X8_gather_38s (f_X8_gather_38 n)
def f_X8_gather_36 (x0 : Nat) (x1 : Nat) (x2 : Int32) (S : ZS) : Option (Int32 × ZS) :=
  f_X8_gather_38 mFuel x0 x1 x2 (0 : Int32) S
def f_X8_gather_18 (x0 : Nat) (x1 : Nat) (t0 : Int32) (S : ZS) : Option (Int32 × ZS) :=
  m_chk (zK S x0 = 8) (
  m_if ((zI S 2 x0) = 0) (
  f_X8_gather_36 x0 x1 t0 S
  ) (
  m_chk (zK S x0 = 8) (
  m_bnd (t0 + (zI S 2 x0)) (fun v1 =>
  m_chk (zK S x0 = 8) (
  m_bnd (zsI S 6 x0 v1) (fun S2 =>
  f_X8_gather_36 x0 x1 t0 S2))))
  ))
def f_X8_gather_0 (x0 : Nat) (x1 : Nat) (S : ZS) : Option (Int32 × ZS) :=
  m_chk (zK S x0 = 8) (
  m_bnd (zsI S 11 x0 (0 : Int32)) (fun S1 =>
  m_chk (zK S1 x1 = 0) (
  m_if ((zI S1 3 x1) = 0) (
  f_X8_gather_18 x0 x1 (4 : Int32) S1
  ) (
  f_X8_gather_18 x0 x1 (60 : Int32) S1
  ))))
def f_X8_gather (x0 : Nat) (x1 : Nat) (S : ZS) : Option (Int32 × ZS) := f_X8_gather_0 x0 x1 S
def f_X7_checkSign_103 (self53 : Nat → Int32 → ZS → Option (Int32 × ZS)) (self62 : Nat → Int32 → Int32 → ZS → Option (Int32 × ZS)) (x0 : Nat) (x3 : Int32) (x4 : Int32) (S : ZS) : Option (Int32 × ZS) :=
  m_bnd (x4 + (1 : Int32)) (fun v1 =>
  self62 x0 x3 v1 S)
def f_X7_checkSign_62s (self53 : Nat → Int32 → ZS → Option (Int32 × ZS)) (self62 : Nat → Int32 → Int32 → ZS → Option (Int32 × ZS)) (x0 : Nat) (x3 : Int32) (x4 : Int32) (S : ZS) : Option (Int32 × ZS) :=
  m_if ((64 : Int32) ≤ x4) (
  m_bnd (x3 + (1 : Int32)) (fun v1 =>
  self53 x0 v1 S)
  ) (
  m_chk (zK S x0 = 7) (
  m_cal (zP S 1 x0) (fun b2 =>
  m_chk (zK S b2 = 0) (
  m_cal (f_X0_reaches b2 x3 x4 S) (fun o3 =>
  m_if (o3.1 = 0) (
  f_X7_checkSign_103 self53 self62 x0 x3 x4 o3.2
  ) (
  m_chk (zK o3.2 x0 = 7) (
  m_cal (zP o3.2 1 x0) (fun b4 =>
  m_bnd ((64 : Int32) * x4) (fun v5 =>
  m_bnd (x3 + v5) (fun v6 =>
  m_chk (zK o3.2 x0 = 7) (
  m_cal (f_X7_isSafe x0 b4 v6 o3.2) (fun o7 =>
  m_if (o7.1 = 0) (
  f_X7_checkSign_103 self53 self62 x0 x3 x4 o7.2
  ) (
  m_chk (vp_nar .char (43 : Int32) = (43 : Int32)) (some ((43 : Int32), o7.2))
  )))))))
  )))))
  )
def f_X7_checkSign_62 (self53 : Nat → Int32 → ZS → Option (Int32 × ZS)) : Nat → Nat → Int32 → Int32 → ZS → Option (Int32 × ZS)
  | 0 => fun _ _ _ _ => none
  | n + 1 => f_X7_checkSign_62s self53 (f_X7_checkSign_62 self53 n)
def f_X7_checkSign_53s (self53 : Nat → Int32 → ZS → Option (Int32 × ZS)) (x0 : Nat) (x3 : Int32) (S : ZS) : Option (Int32 × ZS) :=
  m_if ((64 : Int32) ≤ x3) (
  m_chk (vp_nar .char (35 : Int32) = (35 : Int32)) (some ((35 : Int32), S))
  ) (
  f_X7_checkSign_62 self53 mFuel x0 x3 (0 : Int32) S
  )
def f_X7_checkSign_53 : Nat → Nat → Int32 → ZS → Option (Int32 × ZS)
  | 0 => fun _ _ _ => none
  | n + 1 => f_X7_checkSign_53s (f_X7_checkSign_53 n)
def f_X7_checkSign_0 (x0 : Nat) (x1 : Nat) (x2 : Int32) (S : ZS) : Option (Int32 × ZS) :=
  m_chk (zK S x0 = 7) (
  m_cal (zP S 1 x0) (fun b1 =>
  m_chk (zK S b1 = 0) (
  m_cal (f_X0_copyFrom b1 x1 S) (fun o2 =>
  m_chk (zK o2.2 x0 = 7) (
  m_cal (zP o2.2 1 x0) (fun b3 =>
  m_chk (zK o2.2 b3 = 0) (
  m_cal (f_X0_play b3 x2 o2.2) (fun o4 =>
  m_chk (zK o4.2 x0 = 7) (
  m_cal (zP o4.2 1 x0) (fun b5 =>
  m_chk (zK o4.2 x0 = 7) (
  m_cal (zP o4.2 1 x0) (fun b6 =>
  m_chk (zK o4.2 x0 = 7) (
  m_cal (zP o4.2 1 x0) (fun b7 =>
  m_chk (zK o4.2 b7 = 0) (
  m_chk (zK o4.2 b6 = 0) (
  m_cal (f_X0_kingOf b6 (zI o4.2 3 b7) o4.2) (fun o8 =>
  m_chk (zK o8.2 x0 = 7) (
  m_cal (zP o8.2 1 x0) (fun b9 =>
  m_chk (zK o8.2 b9 = 0) (
  m_bnd ((1 : Int32) - (zI o8.2 3 b9)) (fun v10 =>
  m_chk (zK o8.2 b5 = 0) (
  m_cal (f_X0_attacked b5 o8.1 v10 o8.2) (fun o11 =>
  m_if (o11.1 = 0) (
  m_chk (vp_nar .char (0 : Int32) = (0 : Int32)) (some ((0 : Int32), o11.2))
  ) (
  f_X7_checkSign_53 mFuel x0 (0 : Int32) o11.2
  ))))))))))))))))))))))))
def f_X7_checkSign (x0 : Nat) (x1 : Nat) (x2 : Int32) (S : ZS) : Option (Int32 × ZS) := f_X7_checkSign_0 x0 x1 x2 S
def f_X2_shortMark_56 (t0 : Int32) (S : ZS) : Option (Int32 × ZS) :=
  some (t0, S)
def f_X2_shortMark_27 (t0 : Int32) (S : ZS) : Option (Int32 × ZS) :=
  some (t0, S)
def f_X2_shortMark_0 (x0 : Int32) (x1 : Int32) (S : ZS) : Option (Int32 × ZS) :=
  m_if (x0 = (33 : Int32)) (
  m_if (x1 = (33 : Int32)) (
  f_X2_shortMark_27 (3 : Int32) S
  ) (
  m_if (x1 = (63 : Int32)) (
  f_X2_shortMark_27 (5 : Int32) S
  ) (
  f_X2_shortMark_27 (1 : Int32) S
  )
  )
  ) (
  m_if (x0 = (63 : Int32)) (
  m_if (x1 = (63 : Int32)) (
  f_X2_shortMark_56 (4 : Int32) S
  ) (
  m_if (x1 = (33 : Int32)) (
  f_X2_shortMark_56 (6 : Int32) S
  ) (
  f_X2_shortMark_56 (2 : Int32) S
  )
  )
  ) (
  some ((0 : Int32), S)
  )
  )
def f_X2_shortMark (x0 : Int32) (x1 : Int32) (S : ZS) : Option (Int32 × ZS) := f_X2_shortMark_0 x0 x1 S
def f_X4_putMark_0 (x0 : Nat) (x1 : Int32) (S : ZS) : Option (Int32 × ZS) :=
  m_chk (zK S x0 = 4) (
  m_chk (zK S x0 = 4) (
  m_bnd ((8 : Int32) * (zI S 4 x0)) (fun v1 =>
  m_bnd (x1 <<< (v1 &&& 31)) (fun v2 =>
  m_bnd ((zI S 5 x0) ||| v2) (fun v3 =>
  m_chk (zK S x0 = 4) (
  m_bnd (zsI S 5 x0 v3) (fun S4 =>
  m_chk (zK S4 x0 = 4) (
  m_bnd ((zI S4 4 x0) + (1 : Int32)) (fun v5 =>
  m_chk (zK S4 x0 = 4) (
  m_bnd (zsI S4 4 x0 v5) (fun S6 =>
  some (0, S6))))))))))))
def f_X4_putMark (x0 : Nat) (x1 : Int32) (S : ZS) : Option (Int32 × ZS) := f_X4_putMark_0 x0 x1 S
def f_X2_readMark_56 (x0 : Nat) (x2 : Int32) (S : ZS) : Option (Int32 × ZS) :=
  m_chk (zK S x0 = 2) (
  m_cal (f_X2_refuse x0 (8 : Int32) x2 S) (fun o1 =>
  m_chk (vp_nar .boolean o1.1 = o1.1) (some (o1.1, o1.2))))
def f_X2_readMark_0 (x0 : Nat) (x1 : Nat) (S : ZS) : Option (Int32 × ZS) :=
  m_chk (zK S x0 = 2) (
  m_chk (zK S x0 = 2) (
  m_bnd ((zI S 4 x0) + (1 : Int32)) (fun v1 =>
  m_chk (zK S x0 = 2) (
  m_bnd (zsI S 4 x0 v1) (fun S2 =>
  m_chk (zK S2 x0 = 2) (
  m_cal (f_X2_readDigits x0 (3 : Int32) S2) (fun o3 =>
  m_chk (zK o3.2 x0 = 2) (
  m_bnd ((zI S 4 x0) + (1 : Int32)) (fun v4 =>
  m_if ((zI o3.2 4 x0) = v4) (
  m_chk (zK o3.2 x0 = 2) (
  m_chk (zK o3.2 x0 = 2) (
  m_cal (f_X2_refuse x0 (1 : Int32) (zI o3.2 4 x0) o3.2) (fun o10 =>
  m_chk (vp_nar .boolean o10.1 = o10.1) (some (o10.1, o10.2)))))
  ) (
  m_if ((255 : Int32) < o3.1) (
  f_X2_readMark_56 x0 (zI S 4 x0) o3.2
  ) (
  m_chk (zK o3.2 x1 = 4) (
  m_if ((zI o3.2 4 x1) < (4 : Int32)) (
  m_chk (zK o3.2 x0 = 2) (
  m_cal (zP o3.2 2 x0) (fun b5 =>
  m_chk (zK o3.2 x0 = 2) (
  m_chk (zK o3.2 b5 = 6) (
  m_cal (f_X6_at b5 (zI o3.2 4 x0) o3.2) (fun o6 =>
  m_cal (f_X11_isDigit o6.1 o6.2) (fun o7 =>
  m_if (o7.1 = 0) (
  m_chk (zK o7.2 x1 = 4) (
  m_cal (f_X4_putMark x1 o3.1 o7.2) (fun o8 =>
  m_chk (vp_nar .boolean (1 : Int32) = (1 : Int32)) (some ((1 : Int32), o8.2))))
  ) (
  m_chk (zK o7.2 x0 = 2) (
  m_chk (zK o7.2 x0 = 2) (
  m_cal (f_X2_refuse x0 (1 : Int32) (zI o7.2 4 x0) o7.2) (fun o9 =>
  m_chk (vp_nar .boolean o9.1 = o9.1) (some (o9.1, o9.2)))))
  )))))))
  ) (
  f_X2_readMark_56 x0 (zI S 4 x0) o3.2
  ))
  )
  ))))))))))
def f_X2_readMark (x0 : Nat) (x1 : Nat) (S : ZS) : Option (Int32 × ZS) := f_X2_readMark_0 x0 x1 S
def f_X2_readMarks_113 (x3 : Int32) (S : ZS) : Option (Int32 × ZS) :=
  m_chk (vp_nar .boolean x3 = x3) (some (x3, S))
def f_X2_readMarks_69s (self69 : Nat → Nat → Int32 → Int32 → ZS → Option (Int32 × ZS)) (x0 : Nat) (x1 : Nat) (x3 : Int32) (x4 : Int32) (S : ZS) : Option (Int32 × ZS) :=
  m_if ((2000 : Int32) ≤ x4) (
  f_X2_readMarks_113 x3 S
  ) (
  m_if (x3 = 0) (
  f_X2_readMarks_113 x3 S
  ) (
  m_chk (zK S x0 = 2) (
  m_cal (zP S 2 x0) (fun b1 =>
  m_chk (zK S x0 = 2) (
  m_chk (zK S b1 = 6) (
  m_cal (f_X6_at b1 (zI S 4 x0) S) (fun o2 =>
  m_if (o2.1 = (36 : Int32)) (
  m_chk (zK o2.2 x0 = 2) (
  m_cal (f_X2_readMark x0 x1 o2.2) (fun o3 =>
  m_chk (zK o3.2 x0 = 2) (
  m_cal (f_X2_skipBlanks x0 o3.2) (fun o4 =>
  m_bnd (x4 + (1 : Int32)) (fun v5 =>
  self69 x0 x1 o3.1 v5 o4.2)))))
  ) (
  f_X2_readMarks_113 x3 o2.2
  ))))))
  )
  )
def f_X2_readMarks_69 : Nat → Nat → Nat → Int32 → Int32 → ZS → Option (Int32 × ZS)
  | 0 => fun _ _ _ _ _ => none
  | n + 1 => f_X2_readMarks_69s (f_X2_readMarks_69 n)
def f_X2_readMarks_64 (x0 : Nat) (x1 : Nat) (S : ZS) : Option (Int32 × ZS) :=
  f_X2_readMarks_69 mFuel x0 x1 (1 : Int32) (0 : Int32) S
def f_X2_readMarks_56 (x0 : Nat) (x1 : Nat) (t0 : Int32) (t1 : Int32) (t2 : Nat) (S : ZS) : Option (Int32 × ZS) :=
  m_bnd (t1 + t0) (fun v1 =>
  m_chk (zK S t2 = 2) (
  m_bnd (zsI S 4 t2 v1) (fun S2 =>
  m_chk (zK S2 x0 = 2) (
  m_cal (f_X2_skipBlanks x0 S2) (fun o3 =>
  f_X2_readMarks_64 x0 x1 o3.2)))))
def f_X2_readMarks_0 (x0 : Nat) (x1 : Nat) (S : ZS) : Option (Int32 × ZS) :=
  m_chk (zK S x0 = 2) (
  m_cal (f_X2_skipBlanks x0 S) (fun o1 =>
  m_chk (zK o1.2 x0 = 2) (
  m_cal (zP o1.2 2 x0) (fun b2 =>
  m_chk (zK o1.2 x0 = 2) (
  m_chk (zK o1.2 b2 = 6) (
  m_cal (f_X6_at b2 (zI o1.2 4 x0) o1.2) (fun o3 =>
  m_chk (zK o3.2 x0 = 2) (
  m_cal (zP o3.2 2 x0) (fun b4 =>
  m_chk (zK o3.2 x0 = 2) (
  m_bnd ((zI o3.2 4 x0) + (1 : Int32)) (fun v5 =>
  m_chk (zK o3.2 b4 = 6) (
  m_cal (f_X6_at b4 v5 o3.2) (fun o6 =>
  m_cal (f_X2_shortMark o3.1 o6.1 o6.2) (fun o7 =>
  m_if (o7.1 ≤ 0) (
  f_X2_readMarks_64 x0 x1 o7.2
  ) (
  m_chk (zK o7.2 x1 = 4) (
  m_cal (f_X4_putMark x1 o7.1 o7.2) (fun o8 =>
  m_chk (zK o8.2 x0 = 2) (
  m_if (o7.1 ≤ (2 : Int32)) (
  f_X2_readMarks_56 x0 x1 (1 : Int32) (zI o8.2 4 x0) x0 o8.2
  ) (
  f_X2_readMarks_56 x0 x1 (2 : Int32) (zI o8.2 4 x0) x0 o8.2
  ))))
  )))))))))))))))
def f_X2_readMarks (x0 : Nat) (x1 : Nat) (S : ZS) : Option (Int32 × ZS) := f_X2_readMarks_0 x0 x1 S
def f_X11_letterOf_25 (t0 : Int32) (S : ZS) : Option (Int32 × ZS) :=
  m_chk (vp_nar .char t0 = t0) (some (t0, S))
def f_X11_letterOf_23 (S : ZS) : Option (Int32 × ZS) :=
  f_X11_letterOf_25 (63 : Int32) S
def f_X11_letterOf_0 (x0 : Int32) (S : ZS) : Option (Int32 × ZS) :=
  m_if (x0 < (1 : Int32)) (
  f_X11_letterOf_23  S
  ) (
  m_if ((6 : Int32) < x0) (
  f_X11_letterOf_23  S
  ) (
  m_bnd (x0 - (1 : Int32)) (fun v1 =>
  m_chk (9 < zSn) (
  m_cal (f_J0_charAt_5068e 9 v1 S) (fun o2 =>
  f_X11_letterOf_25 o2.1 o2.2)))
  )
  )
def f_X11_letterOf (x0 : Int32) (S : ZS) : Option (Int32 × ZS) := f_X11_letterOf_0 x0 S
def f_X11_fileLetter_0 (x0 : Int32) (S : ZS) : Option (Int32 × ZS) :=
  m_bnd (x0 &&& (7 : Int32)) (fun v1 =>
  m_bnd ((97 : Int32) + v1) (fun v2 =>
  m_bnd ((v2.toUInt32 % 65536).toInt32) (fun v3 =>
  m_chk (vp_nar .char v3 = v3) (some (v3, S)))))
def f_X11_fileLetter (x0 : Int32) (S : ZS) : Option (Int32 × ZS) := f_X11_fileLetter_0 x0 S
def f_X11_rankDigit_0 (x0 : Int32) (S : ZS) : Option (Int32 × ZS) :=
  m_bnd (x0 >>> ((3 : Int32) &&& 31)) (fun v1 =>
  m_bnd ((49 : Int32) + v1) (fun v2 =>
  m_bnd ((v2.toUInt32 % 65536).toInt32) (fun v3 =>
  m_chk (vp_nar .char v3 = v3) (some (v3, S)))))
def f_X11_rankDigit (x0 : Int32) (S : ZS) : Option (Int32 × ZS) := f_X11_rankDigit_0 x0 S
def f_X4_markAt_0 (x0 : Nat) (x1 : Int32) (S : ZS) : Option (Int32 × ZS) :=
  m_chk (zK S x0 = 4) (
  m_bnd ((8 : Int32) * x1) (fun v1 =>
  m_bnd ((((zI S 5 x0)).toUInt32 >>> ((v1).toUInt32 &&& Int32.toUInt32 31)).toInt32) (fun v2 =>
  m_bnd (v2 &&& (255 : Int32)) (fun v3 =>
  some (v3, S)))))
def f_X4_markAt (x0 : Nat) (x1 : Int32) (S : ZS) : Option (Int32 × ZS) := f_X4_markAt_0 x0 x1 S
def f_X7_isLegal_47 (S : ZS) : Option (Int32 × ZS) :=
  m_chk (vp_nar .boolean (0 : Int32) = (0 : Int32)) (some ((0 : Int32), S))
def f_X7_isLegal_83 (t0 : Int32) (S : ZS) : Option (Int32 × ZS) :=
  m_chk (vp_nar .boolean t0 = t0) (some (t0, S))
def f_X7_isLegal_82 (S : ZS) : Option (Int32 × ZS) :=
  f_X7_isLegal_83 (0 : Int32) S
def f_X7_isLegal_66 (x0 : Nat) (x1 : Nat) (x2 : Int32) (t0 : Int32) (t1 : Int32) (S : ZS) : Option (Int32 × ZS) :=
  m_if (t1 = t0) (
  m_chk (zK S x0 = 7) (
  m_cal (f_X7_isSafe x0 x1 x2 S) (fun o1 =>
  m_if (o1.1 = 0) (
  f_X7_isLegal_82  o1.2
  ) (
  f_X7_isLegal_83 (1 : Int32) o1.2
  )))
  ) (
  f_X7_isLegal_82  S
  )
def f_X7_isLegal_0 (x0 : Nat) (x1 : Nat) (x2 : Int32) (S : ZS) : Option (Int32 × ZS) :=
  m_bnd (x2 &&& (63 : Int32)) (fun v1 =>
  m_bnd (x2 >>> ((6 : Int32) &&& 31)) (fun v2 =>
  m_bnd (v2 &&& (63 : Int32)) (fun v3 =>
  m_bnd (x2 >>> ((12 : Int32) &&& 31)) (fun v4 =>
  m_if (v4 < 0) (
  f_X7_isLegal_47  S
  ) (
  m_if (v4 = (1 : Int32)) (
  f_X7_isLegal_47  S
  ) (
  m_if ((5 : Int32) < v4) (
  f_X7_isLegal_47  S
  ) (
  m_chk (zK S x1 = 0) (
  m_cal (f_X0_reaches x1 v1 v3 S) (fun o5 =>
  m_if (o5.1 = 0) (
  f_X7_isLegal_47  o5.2
  ) (
  m_chk (zK o5.2 x1 = 0) (
  m_cal (f_X0_becomesAnother x1 v1 v3 o5.2) (fun o6 =>
  m_if (v4 = 0) (
  f_X7_isLegal_66 x0 x1 x2 (0 : Int32) o6.1 o6.2
  ) (
  f_X7_isLegal_66 x0 x1 x2 (1 : Int32) o6.1 o6.2
  )))
  )))
  )
  )
  )))))
def f_X7_isLegal (x0 : Nat) (x1 : Nat) (x2 : Int32) (S : ZS) : Option (Int32 × ZS) := f_X7_isLegal_0 x0 x1 x2 S
def f_X7_legalMove_110 (self11 : Nat → Nat → Int32 → Int32 → ZS → Option (Int32 × ZS)) (self21 : Nat → Nat → Int32 → Int32 → Int32 → ZS → Option (Int32 × ZS)) (x0 : Nat) (x1 : Nat) (x3 : Int32) (x4 : Int32) (x5 : Int32) (S : ZS) : Option (Int32 × ZS) :=
  m_bnd (x5 + (1 : Int32)) (fun v1 =>
  self21 x0 x1 x3 x4 v1 S)
def f_X7_legalMove_104 (t0 : Int32) (S : ZS) : Option (Int32 × ZS) :=
  some (t0, S)
def f_X7_legalMove_75 (self11 : Nat → Nat → Int32 → Int32 → ZS → Option (Int32 × ZS)) (self21 : Nat → Nat → Int32 → Int32 → Int32 → ZS → Option (Int32 × ZS)) (x0 : Nat) (x1 : Nat) (x3 : Int32) (x4 : Int32) (x5 : Int32) (x6 : Int32) (t0 : Int32) (S : ZS) : Option (Int32 × ZS) :=
  m_if (t0 ≤ x3) (
  m_bnd (x3 - t0) (fun v1 =>
  f_X7_legalMove_110 self11 self21 x0 x1 v1 x4 x5 S)
  ) (
  m_if (t0 = (1 : Int32)) (
  f_X7_legalMove_104 x6 S
  ) (
  m_bnd ((2 : Int32) + x3) (fun v2 =>
  m_bnd ((4096 : Int32) * v2) (fun v3 =>
  m_bnd (x6 + v3) (fun v4 =>
  f_X7_legalMove_104 v4 S)))
  )
  )
def f_X7_legalMove_21s (self11 : Nat → Nat → Int32 → Int32 → ZS → Option (Int32 × ZS)) (self21 : Nat → Nat → Int32 → Int32 → Int32 → ZS → Option (Int32 × ZS)) (x0 : Nat) (x1 : Nat) (x3 : Int32) (x4 : Int32) (x5 : Int32) (S : ZS) : Option (Int32 × ZS) :=
  m_if ((64 : Int32) ≤ x5) (
  m_bnd (x4 + (1 : Int32)) (fun v1 =>
  self11 x0 x1 x3 v1 S)
  ) (
  m_bnd ((64 : Int32) * x5) (fun v2 =>
  m_bnd (x4 + v2) (fun v3 =>
  m_chk (zK S x1 = 0) (
  m_cal (f_X0_reaches x1 x4 x5 S) (fun o4 =>
  m_if (o4.1 = 0) (
  f_X7_legalMove_110 self11 self21 x0 x1 x3 x4 x5 o4.2
  ) (
  m_chk (zK o4.2 x0 = 7) (
  m_cal (f_X7_isSafe x0 x1 v3 o4.2) (fun o5 =>
  m_if (o5.1 = 0) (
  f_X7_legalMove_110 self11 self21 x0 x1 x3 x4 x5 o5.2
  ) (
  m_chk (zK o5.2 x1 = 0) (
  m_cal (f_X0_becomesAnother x1 x4 x5 o5.2) (fun o6 =>
  m_if (o6.1 = 0) (
  f_X7_legalMove_75 self11 self21 x0 x1 x3 x4 x5 v3 (1 : Int32) o6.2
  ) (
  f_X7_legalMove_75 self11 self21 x0 x1 x3 x4 x5 v3 (4 : Int32) o6.2
  )))
  )))
  )))))
  )
def f_X7_legalMove_21 (self11 : Nat → Nat → Int32 → Int32 → ZS → Option (Int32 × ZS)) : Nat → Nat → Nat → Int32 → Int32 → Int32 → ZS → Option (Int32 × ZS)
  | 0 => fun _ _ _ _ _ _ => none
  | n + 1 => f_X7_legalMove_21s self11 (f_X7_legalMove_21 self11 n)
def f_X7_legalMove_11s (self11 : Nat → Nat → Int32 → Int32 → ZS → Option (Int32 × ZS)) (x0 : Nat) (x1 : Nat) (x3 : Int32) (x4 : Int32) (S : ZS) : Option (Int32 × ZS) :=
  m_if ((64 : Int32) ≤ x4) (
  some ((-1 : Int32), S)
  ) (
  f_X7_legalMove_21 self11 mFuel x0 x1 x3 x4 (0 : Int32) S
  )
def f_X7_legalMove_11 : Nat → Nat → Nat → Int32 → Int32 → ZS → Option (Int32 × ZS)
  | 0 => fun _ _ _ _ _ => none
  | n + 1 => f_X7_legalMove_11s (f_X7_legalMove_11 n)
def f_X7_legalMove_0 (x0 : Nat) (x1 : Nat) (x2 : Int32) (S : ZS) : Option (Int32 × ZS) :=
  m_if (0 ≤ x2) (
  f_X7_legalMove_11 mFuel x0 x1 x2 (0 : Int32) S
  ) (
  some ((-1 : Int32), S)
  )
def f_X7_legalMove (x0 : Nat) (x1 : Nat) (x2 : Int32) (S : ZS) : Option (Int32 × ZS) := f_X7_legalMove_0 x0 x1 x2 S
def f_X11_byteOf_0 (x0 : Int64) (x2 : Int32) (S : ZS) : Option (Int32 × ZS) :=
  m_bnd ((8 : Int32) * x2) (fun v1 =>
  m_bnd (((x0).toUInt64 >>> ((v1).toInt64.toUInt64 &&& Int64.toUInt64 63)).toInt64) (fun v2 =>
  m_bnd (v2 &&& (255 : Int64)) (fun v3 =>
  m_bnd ((v3).toInt32) (fun v4 =>
  m_bnd ((v4.toUInt32 % 65536).toInt32) (fun v5 =>
  m_chk (vp_nar .char v5 = v5) (some (v5, S)))))))
def f_X11_byteOf (x0 : Int64) (x2 : Int32) (S : ZS) : Option (Int32 × ZS) := f_X11_byteOf_0 x0 x2 S
def f_X11_cut_15 (S : ZS) : Option (Int32 × ZS) :=
  m_chk (vp_nar .boolean (0 : Int32) = (0 : Int32)) (some ((0 : Int32), S))
def f_X11_cut_0 (x0 : Nat) (x1 : Int32) (S : ZS) : Option (Int32 × ZS) :=
  m_if (x1 < 0) (
  f_X11_cut_15  S
  ) (
  m_chk (zK S x0 = 11) (
  m_cal (zP S 0 x0) (fun b1 =>
  m_chk (zK S b1 = 6) (
  m_cal (f_X6_size b1 S) (fun o2 =>
  m_if (x1 ≤ o2.1) (
  m_chk (zK o2.2 x0 = 11) (
  m_cal (zP o2.2 0 x0) (fun b3 =>
  m_chk (zK o2.2 b3 = 6) (
  m_cal (f_X6_keep b3 x1 o2.2) (fun o4 =>
  m_chk (vp_nar .boolean (1 : Int32) = (1 : Int32)) (some ((1 : Int32), o4.2))))))
  ) (
  f_X11_cut_15  o2.2
  )))))
  )
def f_X11_cut (x0 : Nat) (x1 : Int32) (S : ZS) : Option (Int32 × ZS) := f_X11_cut_0 x0 x1 S
def f_X11_out_0 (x0 : Nat) (x1 : Int32) (S : ZS) : Option (Int32 × ZS) :=
  m_chk (zK S x0 = 11) (
  m_cal (zP S 1 x0) (fun b1 =>
  m_chk (zK S b1 = 6) (
  m_cal (f_X6_at b1 x1 S) (fun o2 =>
  some (o2.1, o2.2)))))
def f_X11_out (x0 : Nat) (x1 : Int32) (S : ZS) : Option (Int32 × ZS) := f_X11_out_0 x0 x1 S
def f_X11_nodes_0 (x0 : Nat) (S : ZS) : Option (Int32 × ZS) :=
  m_chk (zK S x0 = 11) (
  m_cal (zP S 7 x0) (fun b1 =>
  m_chk (zK S b1 = 1) (
  some ((zI S 3 b1), S))))
def f_X11_nodes (x0 : Nat) (S : ZS) : Option (Int32 × ZS) := f_X11_nodes_0 x0 S
def f_X11_here_0 (x0 : Nat) (S : ZS) : Option (Int32 × ZS) :=
  m_chk (zK S x0 = 11) (
  some ((zI S 8 x0), S))
def f_X11_here (x0 : Nat) (S : ZS) : Option (Int32 × ZS) := f_X11_here_0 x0 S
def f_X11_move_0 (x0 : Nat) (x1 : Int32) (S : ZS) : Option (Int32 × ZS) :=
  m_chk (zK S x0 = 11) (
  m_cal (zP S 2 x0) (fun b1 =>
  m_chk (zK S x0 = 11) (
  m_cal (zP S 9 x0) (fun b2 =>
  m_chk (zK S b1 = 7) (
  m_cal (f_X7_legalMove b1 b2 x1 S) (fun o3 =>
  some (o3.1, o3.2)))))))
def f_X11_move (x0 : Nat) (x1 : Int32) (S : ZS) : Option (Int32 × ZS) := f_X11_move_0 x0 x1 S
def f_X11_result_0 (x0 : Nat) (S : ZS) : Option (Int32 × ZS) :=
  m_chk (zK S x0 = 11) (
  m_cal (zP S 7 x0) (fun b1 =>
  m_chk (zK S b1 = 1) (
  some ((zI S 6 b1), S))))
def f_X11_result (x0 : Nat) (S : ZS) : Option (Int32 × ZS) := f_X11_result_0 x0 S
def f_X11_tags_0 (x0 : Nat) (S : ZS) : Option (Int32 × ZS) :=
  m_chk (zK S x0 = 11) (
  m_cal (zP S 7 x0) (fun b1 =>
  m_chk (zK S b1 = 1) (
  some ((zI S 5 b1), S))))
def f_X11_tags (x0 : Nat) (S : ZS) : Option (Int32 × ZS) := f_X11_tags_0 x0 S
def d_X0_init_0 (x0 : Nat) (S : ZS) : Option (Int32 × ZS) :=
  m_chk (¬ (64 : Int32) < 0 ∧ ((64 : Int32)).toNatClampNeg * componentBytes .int ≤ 536870912) (
  m_bnd (zt S) (fun q1 =>
  m_bnd (zsNewA S q1 14 ((64 : Int32)).toNatClampNeg) (fun S2 =>
  m_chk (zK S2 x0 = 0) (
  m_bnd (zsP S2 0 x0 (some q1)) (fun S5 =>
  m_chk (zK S5 x0 = 0) (
  m_bnd (zsI S5 1 x0 (4 : Int32)) (fun S6 =>
  m_chk (zK S6 x0 = 0) (
  m_bnd (zsI S6 2 x0 (60 : Int32)) (fun S7 =>
  m_chk (zK S7 x0 = 0) (
  m_bnd (zsI S7 3 x0 (0 : Int32)) (fun S8 =>
  m_chk (zK S8 x0 = 0) (
  m_bnd (zsI S8 4 x0 (0 : Int32)) (fun S9 =>
  m_chk (zK S9 x0 = 0) (
  m_bnd (zsI S9 5 x0 (-1 : Int32)) (fun S10 =>
  m_chk (zK S10 x0 = 0) (
  m_bnd (zsI S10 6 x0 (1 : Int32)) (fun S11 =>
  some (0, S11))))))))))))))))))
def d_X0_init (x0 : Nat) (S : ZS) : Option (Int32 × ZS) := d_X0_init_0 x0 S
def d_X4_init_0 (x0 : Nat) (S : ZS) : Option (Int32 × ZS) :=
  m_chk (zK S x0 = 4) (
  m_bnd (zsI S 0 x0 (-1 : Int32)) (fun S1 =>
  m_chk (zK S1 x0 = 4) (
  m_bnd (zsI S1 1 x0 (-1 : Int32)) (fun S2 =>
  m_chk (zK S2 x0 = 4) (
  m_bnd (zsI S2 2 x0 (-1 : Int32)) (fun S3 =>
  m_chk (zK S3 x0 = 4) (
  m_bnd (zsI S3 3 x0 (-1 : Int32)) (fun S4 =>
  m_chk (zK S4 x0 = 4) (
  m_bnd (zsI S4 4 x0 (0 : Int32)) (fun S5 =>
  m_chk (zK S5 x0 = 4) (
  m_bnd (zsI S5 5 x0 (0 : Int32)) (fun S6 =>
  m_bnd (zt S6) (fun q7 =>
  m_bnd (zsNewO S6 q7 6 2) (fun S8 =>
  m_cal (f_X6_init q7 S8) (fun o11 => m_chk (zt o11.2 = zt S8 ∧ zu o11.2 = zu S8) (
  m_chk (zK o11.2 x0 = 4) (
  m_bnd (zsP o11.2 6 x0 (some q7)) (fun S12 =>
  some (0, S12)))))))))))))))))))
def d_X4_init (x0 : Nat) (S : ZS) : Option (Int32 × ZS) := d_X4_init_0 x0 S
def d_X1_init_0 (x0 : Nat) (S : ZS) : Option (Int32 × ZS) :=
  m_bnd (zt S) (fun q1 =>
  m_bnd (zsNewO S q1 0 7) (fun S2 =>
  m_cal2 (d_X0_init q1 S2) (fun r6 S7 =>
  m_chk (zK S7 x0 = 1) (
  m_bnd (zsP S7 0 x0 (some q1)) (fun S10 =>
  m_bnd (zt S10) (fun q11 =>
  m_bnd (zsNewO S10 q11 4 7) (fun S12 =>
  m_cal2 (d_X4_init q11 S12) (fun r16 S17 =>
  m_chk (zK S17 x0 = 1) (
  m_bnd (zsP S17 1 x0 (some q11)) (fun S20 =>
  m_chk (¬ (301 : Int32) < 0 ∧ ((301 : Int32)).toNatClampNeg * 4 ≤ 536870912) (
  m_bnd (zt S20) (fun q21 =>
  m_bnd (zsNewA S20 q21 16 ((301 : Int32)).toNatClampNeg) (fun S22 =>
  m_chk (zK S22 x0 = 1) (
  m_bnd (zsP S22 2 x0 (some q21)) (fun S25 =>
  m_chk (zK S25 x0 = 1) (
  m_bnd (zsI S25 3 x0 (0 : Int32)) (fun S26 =>
  m_chk (¬ (8 : Int32) < 0 ∧ ((8 : Int32)).toNatClampNeg * 4 ≤ 536870912) (
  m_bnd (zt S26) (fun q27 =>
  m_bnd (zsNewA S26 q27 17 ((8 : Int32)).toNatClampNeg) (fun S28 =>
  m_chk (zK S28 x0 = 1) (
  m_bnd (zsP S28 4 x0 (some q27)) (fun S31 =>
  m_chk (zK S31 x0 = 1) (
  m_bnd (zsI S31 5 x0 (0 : Int32)) (fun S32 =>
  m_chk (zK S32 x0 = 1) (
  m_bnd (zsI S32 6 x0 (0 : Int32)) (fun S33 =>
  m_chk (¬ (301 : Int32) < 0 ∧ ((301 : Int32)).toNatClampNeg * componentBytes .int ≤ 536870912) (
  m_bnd (zt S33) (fun q34 =>
  m_bnd (zsNewA S33 q34 14 ((301 : Int32)).toNatClampNeg) (fun S35 =>
  m_chk (zK S35 x0 = 1) (
  m_bnd (zsP S35 7 x0 (some q34)) (fun S38 =>
  m_chk (zK S38 x0 = 1) (
  m_cal (zP S38 0 x0) (fun b39 =>
  m_chk (zK S38 b39 = 0) (
  m_cal (f_X0_setUp b39 S38) (fun o40 => m_chk (zt o40.2 = zt S38 ∧ zu o40.2 = zu S38) (
  some (0, o40.2)))))))))))))))))))))))))))))))))))))
def d_X1_init (x0 : Nat) (S : ZS) : Option (Int32 × ZS) := d_X1_init_0 x0 S
def d_X1_grow_147 (x0 : Nat) (S : ZS) : Option (Int32 × ZS) :=
  m_chk (zK S x0 = 1) (
  some ((zI S 3 x0), S))
def d_X1_grow_102 (x0 : Nat) (x1 : Int32) (x2 : Int32) (x3 : Int32) (S : ZS) : Option (Int32 × ZS) :=
  m_chk (zK S x0 = 1) (
  m_chk (zK S x0 = 1) (
  m_cal (f_X1_at x0 (zI S 3 x0) S) (fun o1 => m_chk (zt o1.2 = zt S ∧ zu o1.2 = zu S) (
  m_chk (zK o1.2 o1.1 = 4) (
  m_cal (f_X4_become o1.1 x1 x2 o1.2) (fun o2 => m_chk (zt o2.2 = zt o1.2 ∧ zu o2.2 = zu o1.2) (
  m_if (x3 = (-1 : Int32)) (
  m_chk (zK o2.2 x0 = 1) (
  m_cal (f_X1_at x0 x1 o2.2) (fun o5 => m_chk (zt o5.2 = zt o2.2 ∧ zu o5.2 = zu o2.2) (
  m_chk (zK o5.2 x0 = 1) (
  m_chk (zK o5.2 o5.1 = 4) (
  m_bnd (zsI o5.2 2 o5.1 (zI o5.2 3 x0)) (fun S6 =>
  d_X1_grow_147 x0 S6))))))
  ) (
  m_chk (zK o2.2 x0 = 1) (
  m_cal (f_X1_at x0 x3 o2.2) (fun o3 => m_chk (zt o3.2 = zt o2.2 ∧ zu o3.2 = zu o2.2) (
  m_chk (zK o3.2 x0 = 1) (
  m_chk (zK o3.2 o3.1 = 4) (
  m_bnd (zsI o3.2 3 o3.1 (zI o3.2 3 x0)) (fun S4 =>
  d_X1_grow_147 x0 S4))))))
  ))))))))
def d_X1_grow_64 (x0 : Nat) (x1 : Int32) (x2 : Int32) (x3 : Int32) (S : ZS) : Option (Int32 × ZS) :=
  m_chk (zK S x0 = 1) (
  m_bnd ((zI S 3 x0) + (1 : Int32)) (fun v1 =>
  m_chk (zK S x0 = 1) (
  m_bnd (zsI S 3 x0 v1) (fun S2 =>
  m_chk (zK S2 x0 = 1) (
  m_cal (zP S2 2 x0) (fun b3 =>
  m_chk (zK S2 x0 = 1) (
  m_chk (zK S2 b3 = 16) (
  m_chk (¬ ((zI S2 3 x0) < 0 ∨ zN S2 b3 ≤ ((zI S2 3 x0)).toNatClampNeg)) (
  m_bnd (zB S2 b3 ((zI S2 3 x0)).toNatClampNeg) (fun v4 =>
  m_opt v4 (
  m_chk (zK S2 x0 = 1) (
  m_cal (zP S2 2 x0) (fun b6 =>
  m_chk (zK S2 x0 = 1) (
  m_bnd (zt S2) (fun q7 =>
  m_bnd (zsNewO S2 q7 4 7) (fun S8 =>
  m_cal2 (d_X4_init q7 S8) (fun r12 S13 =>
  m_chk (zK S13 b6 = 16) (
  m_chk (zK S13 q7 = 4) (
  m_chk (¬ ((zI S2 3 x0) < 0 ∨ zN S13 b6 ≤ ((zI S2 3 x0)).toNatClampNeg)) (
  m_bnd (zsB S13 b6 ((zI S2 3 x0)).toNatClampNeg (some q7)) (fun S16 =>
  d_X1_grow_102 x0 x1 x2 x3 S16))))))))))) (fun b5 =>
  d_X1_grow_102 x0 x1 x2 x3 S2)))))))))))
def d_X1_grow_24s (self24 : Nat → Int32 → Int32 → Int32 → Int32 → ZS → Option (Int32 × ZS)) (x0 : Nat) (x1 : Int32) (x2 : Int32) (x3 : Int32) (x4 : Int32) (S : ZS) : Option (Int32 × ZS) :=
  m_if ((300 : Int32) ≤ x4) (
  d_X1_grow_64 x0 x1 x2 x3 S
  ) (
  m_if (x3 = (-1 : Int32)) (
  d_X1_grow_64 x0 x1 x2 x3 S
  ) (
  m_chk (zK S x0 = 1) (
  m_cal (f_X1_at x0 x3 S) (fun o1 => m_chk (zt o1.2 = zt S ∧ zu o1.2 = zu S) (
  m_chk (zK o1.2 o1.1 = 4) (
  m_if ((zI o1.2 3 o1.1) = (-1 : Int32)) (
  d_X1_grow_64 x0 x1 x2 x3 o1.2
  ) (
  m_chk (zK o1.2 x0 = 1) (
  m_cal (f_X1_at x0 x3 o1.2) (fun o2 => m_chk (zt o2.2 = zt o1.2 ∧ zu o2.2 = zu o1.2) (
  m_chk (zK o2.2 o2.1 = 4) (
  m_bnd (x4 + (1 : Int32)) (fun v3 =>
  self24 x0 x1 x2 (zI o2.2 3 o2.1) v3 o2.2)))))
  )))))
  )
  )
def d_X1_grow_24  : Nat → Nat → Int32 → Int32 → Int32 → Int32 → ZS → Option (Int32 × ZS)
  | 0 => fun _ _ _ _ _ _ => none
  | n + 1 => d_X1_grow_24s  (d_X1_grow_24  n)
def d_X1_grow_0 (x0 : Nat) (x1 : Int32) (x2 : Int32) (S : ZS) : Option (Int32 × ZS) :=
  m_chk (zK S x0 = 1) (
  m_if ((zI S 3 x0) < (300 : Int32)) (
  m_chk (zK S x0 = 1) (
  m_cal (f_X1_at x0 x1 S) (fun o1 => m_chk (zt o1.2 = zt S ∧ zu o1.2 = zu S) (
  m_chk (zK o1.2 o1.1 = 4) (
  d_X1_grow_24 mFuel x0 x1 x2 (zI o1.2 2 o1.1) (0 : Int32) o1.2))))
  ) (
  some ((-1 : Int32), S)
  ))
def d_X1_grow (x0 : Nat) (x1 : Int32) (x2 : Int32) (S : ZS) : Option (Int32 × ZS) := d_X1_grow_0 x0 x1 x2 S
def d_X10_init_0 (x0 : Nat) (S : ZS) : Option (Int32 × ZS) :=
  m_bnd (zt S) (fun q1 =>
  m_bnd (zsNewO S q1 6 2) (fun S2 =>
  m_cal (f_X6_init q1 S2) (fun o5 => m_chk (zt o5.2 = zt S2 ∧ zu o5.2 = zu S2) (
  m_chk (zK o5.2 x0 = 10) (
  m_bnd (zsP o5.2 0 x0 (some q1)) (fun S6 =>
  m_bnd (zt S6) (fun q7 =>
  m_bnd (zsNewO S6 q7 6 2) (fun S8 =>
  m_cal (f_X6_init q7 S8) (fun o11 => m_chk (zt o11.2 = zt S8 ∧ zu o11.2 = zu S8) (
  m_chk (zK o11.2 x0 = 10) (
  m_bnd (zsP o11.2 1 x0 (some q7)) (fun S12 =>
  some (0, S12)))))))))))))
def d_X10_init (x0 : Nat) (S : ZS) : Option (Int32 × ZS) := d_X10_init_0 x0 S
def d_X1_tagAt_38 (t0 : Option Nat) (S : ZS) : Option (Nat × ZS) :=
  m_cal t0 (fun b1 =>
  some (b1, S))
def d_X1_tagAt_22 (t0 : Option Nat) (S : ZS) : Option (Nat × ZS) :=
  m_opt t0 (
  m_bnd (zt S) (fun q2 =>
  m_bnd (zsNewO S q2 10 2) (fun S3 =>
  m_cal2 (d_X10_init q2 S3) (fun r7 S8 =>
  d_X1_tagAt_38 (some q2) S8)))) (fun b1 =>
  d_X1_tagAt_38 (some b1) S)
def d_X1_tagAt_21 (S : ZS) : Option (Nat × ZS) :=
  d_X1_tagAt_22 none S
def d_X1_tagAt_0 (x0 : Nat) (x1 : Int32) (S : ZS) : Option (Nat × ZS) :=
  m_if (x1 < 0) (
  d_X1_tagAt_21 S
  ) (
  m_chk (zK S x0 = 1) (
  m_if ((zI S 5 x0) ≤ x1) (
  d_X1_tagAt_21 S
  ) (
  m_chk (zK S x0 = 1) (
  m_cal (zP S 4 x0) (fun b1 =>
  m_chk (zK S b1 = 17) (
  m_chk (¬ (x1 < 0 ∨ zN S b1 ≤ (x1).toNatClampNeg)) (
  m_bnd (zB S b1 (x1).toNatClampNeg) (fun v2 =>
  d_X1_tagAt_22 v2 S)))))
  ))
  )
def d_X1_tagAt (x0 : Nat) (x1 : Int32) (S : ZS) : Option (Nat × ZS) := d_X1_tagAt_0 x0 x1 S
def d_X1_hasTag_2s (self2 : Nat → Nat → Int32 → ZS → Option (Int32 × ZS)) (x0 : Nat) (x1 : Nat) (x2 : Int32) (S : ZS) : Option (Int32 × ZS) :=
  m_chk (zK S x0 = 1) (
  m_if ((zI S 5 x0) ≤ x2) (
  m_chk (vp_nar .boolean (0 : Int32) = (0 : Int32)) (
  some ((0 : Int32), S))
  ) (
  m_chk (zK S x0 = 1) (
  m_cal2 (d_X1_tagAt x0 x2 S) (fun r2 S3 =>
  m_chk (zK S3 r2 = 10) (
  m_cal (zP S3 0 r2) (fun b6 =>
  m_chk (zK S3 b6 = 6) (
  m_cal (f_X6_isLike b6 x1 S3) (fun o7 => m_chk (zt o7.2 = zt S3 ∧ zu o7.2 = zu S3) (
  m_if (o7.1 = 0) (
  m_bnd (x2 + (1 : Int32)) (fun v8 =>
  self2 x0 x1 v8 o7.2)
  ) (
  m_chk (vp_nar .boolean (1 : Int32) = (1 : Int32)) (
  some ((1 : Int32), o7.2))
  ))))))))
  ))
def d_X1_hasTag_2  : Nat → Nat → Nat → Int32 → ZS → Option (Int32 × ZS)
  | 0 => fun _ _ _ _ => none
  | n + 1 => d_X1_hasTag_2s  (d_X1_hasTag_2  n)
def d_X1_hasTag_0 (x0 : Nat) (x1 : Nat) (S : ZS) : Option (Int32 × ZS) :=
  d_X1_hasTag_2 mFuel x0 x1 (0 : Int32) S
def d_X1_hasTag (x0 : Nat) (x1 : Nat) (S : ZS) : Option (Int32 × ZS) := d_X1_hasTag_0 x0 x1 S
def d_X6_put_43 (x0 : Nat) (x1 : Int32) (S : ZS) : Option (Int32 × ZS) :=
  m_chk (zK S x0 = 6) (
  m_cal (zP S 0 x0) (fun b1 =>
  m_chk (zK S x0 = 6) (
  m_chk (zK S b1 = 13) (
  m_chk (¬ ((zI S 1 x0) < 0 ∨ zN S b1 ≤ ((zI S 1 x0)).toNatClampNeg)) (
  m_bnd (zsA S b1 ((zI S 1 x0)).toNatClampNeg (vp_nar .char x1)) (fun S2 =>
  m_chk (zK S2 x0 = 6) (
  m_bnd ((zI S2 1 x0) + (1 : Int32)) (fun v3 =>
  m_chk (zK S2 x0 = 6) (
  m_bnd (zsI S2 1 x0 v3) (fun S4 =>
  some (0, S4)))))))))))
def d_X6_put_0 (x0 : Nat) (x1 : Int32) (S : ZS) : Option (Int32 × ZS) :=
  m_chk (zK S x0 = 6) (
  m_chk (zK S x0 = 6) (
  m_cal (zP S 0 x0) (fun b1 =>
  m_chk (b1 = 0 ∨ zK S b1 = 13) (
  m_bnd (Int32.ofNat (if b1 = 0 then 0 else zN S b1)) (fun v2 =>
  m_if ((zI S 1 x0) < v2) (
  d_X6_put_43 x0 x1 S
  ) (
  m_chk (zK S x0 = 6) (
  m_bnd ((2 : Int32) * (zI S 1 x0)) (fun v3 =>
  m_bnd (v3 + (8 : Int32)) (fun v4 =>
  m_chk (¬ v4 < 0 ∧ (v4).toNatClampNeg * componentBytes .char ≤ 536870912) (
  m_bnd (zt S) (fun q5 =>
  m_bnd (zsNewA S q5 13 (v4).toNatClampNeg) (fun S6 =>
  m_chk (zK S6 x0 = 6) (
  m_cal (zP S6 0 x0) (fun b9 =>
  m_chk (zK S6 x0 = 6) (
  m_chk (zK S6 q5 = 13) (
  m_chk ((b9 = 0 ∧ (zI S6 1 x0) = 0) ∨ (zK S6 b9 = 13 ∧ ¬ b9 = 0 ∧ ¬ (zI S6 1 x0) < 0 ∧ ((zI S6 1 x0)).toNatClampNeg ≤ zN S6 b9 ∧ ((zI S6 1 x0)).toNatClampNeg ≤ zN S6 q5 ∧ ∀ i, i < ((zI S6 1 x0)).toNatClampNeg → fits .char (.int (zA S6 b9 i)) = true)) (
  m_bnd (zsD S6 b9 q5 0 0 ((zI S6 1 x0)).toNatClampNeg) (fun S10 =>
  m_chk (zK S10 x0 = 6) (
  m_bnd (zsP S10 0 x0 (some q5)) (fun S11 =>
  d_X6_put_43 x0 x1 S11))))))))))))))
  ))))))
def d_X6_put (x0 : Nat) (x1 : Int32) (S : ZS) : Option (Int32 × ZS) := d_X6_put_0 x0 x1 S
def d_X6_putAll_2s (self2 : Nat → Nat → Int32 → ZS → Option (Int32 × ZS)) (x0 : Nat) (x1 : Nat) (x2 : Int32) (S : ZS) : Option (Int32 × ZS) :=
  m_chk (zK S x1 = 6) (
  m_if ((zI S 1 x1) ≤ x2) (
  some (0, S)
  ) (
  m_chk (zK S x1 = 6) (
  m_cal (f_X6_at x1 x2 S) (fun o1 => m_chk (zt o1.2 = zt S ∧ zu o1.2 = zu S) (
  m_chk (zK o1.2 x0 = 6) (
  m_cal2 (d_X6_put x0 o1.1 o1.2) (fun r3 S4 =>
  m_bnd (x2 + (1 : Int32)) (fun v7 =>
  self2 x0 x1 v7 S4))))))
  ))
def d_X6_putAll_2  : Nat → Nat → Nat → Int32 → ZS → Option (Int32 × ZS)
  | 0 => fun _ _ _ _ => none
  | n + 1 => d_X6_putAll_2s  (d_X6_putAll_2  n)
def d_X6_putAll_0 (x0 : Nat) (x1 : Nat) (S : ZS) : Option (Int32 × ZS) :=
  d_X6_putAll_2 mFuel x0 x1 (0 : Int32) S
def d_X6_putAll (x0 : Nat) (x1 : Nat) (S : ZS) : Option (Int32 × ZS) := d_X6_putAll_0 x0 x1 S
def d_X6_copyFrom_0 (x0 : Nat) (x1 : Nat) (S : ZS) : Option (Int32 × ZS) :=
  m_chk (zK S x0 = 6) (
  m_bnd (zsI S 1 x0 (0 : Int32)) (fun S1 =>
  m_chk (zK S1 x0 = 6) (
  m_cal2 (d_X6_putAll x0 x1 S1) (fun r3 S4 =>
  some (0, S4)))))
def d_X6_copyFrom (x0 : Nat) (x1 : Nat) (S : ZS) : Option (Int32 × ZS) := d_X6_copyFrom_0 x0 x1 S
def d_X1_putTag_38 (x0 : Nat) (x1 : Nat) (x2 : Nat) (S : ZS) : Option (Int32 × ZS) :=
  m_chk (zK S x0 = 1) (
  m_bnd ((zI S 5 x0) + (1 : Int32)) (fun v1 =>
  m_chk (zK S x0 = 1) (
  m_bnd (zsI S 5 x0 v1) (fun S2 =>
  m_chk (zK S2 x0 = 1) (
  m_bnd ((zI S2 5 x0) - (1 : Int32)) (fun v3 =>
  m_chk (zK S2 x0 = 1) (
  m_cal2 (d_X1_tagAt x0 v3 S2) (fun r5 S6 =>
  m_chk (zK S6 r5 = 10) (
  m_cal (zP S6 0 r5) (fun b9 =>
  m_chk (zK S6 b9 = 6) (
  m_cal2 (d_X6_copyFrom b9 x1 S6) (fun r11 S12 =>
  m_chk (zK S12 x0 = 1) (
  m_bnd ((zI S12 5 x0) - (1 : Int32)) (fun v15 =>
  m_chk (zK S12 x0 = 1) (
  m_cal2 (d_X1_tagAt x0 v15 S12) (fun r17 S18 =>
  m_chk (zK S18 r17 = 10) (
  m_cal (zP S18 1 r17) (fun b21 =>
  m_chk (zK S18 b21 = 6) (
  m_cal2 (d_X6_copyFrom b21 x2 S18) (fun r23 S24 =>
  some (0, S24)))))))))))))))))))))
def d_X1_putTag_0 (x0 : Nat) (x1 : Nat) (x2 : Nat) (S : ZS) : Option (Int32 × ZS) :=
  m_chk (zK S x0 = 1) (
  m_if ((zI S 5 x0) < (8 : Int32)) (
  m_chk (zK S x0 = 1) (
  m_cal (zP S 4 x0) (fun b1 =>
  m_chk (zK S x0 = 1) (
  m_chk (zK S b1 = 17) (
  m_chk (¬ ((zI S 5 x0) < 0 ∨ zN S b1 ≤ ((zI S 5 x0)).toNatClampNeg)) (
  m_bnd (zB S b1 ((zI S 5 x0)).toNatClampNeg) (fun v2 =>
  m_opt v2 (
  m_chk (zK S x0 = 1) (
  m_cal (zP S 4 x0) (fun b4 =>
  m_chk (zK S x0 = 1) (
  m_bnd (zt S) (fun q5 =>
  m_bnd (zsNewO S q5 10 2) (fun S6 =>
  m_cal2 (d_X10_init q5 S6) (fun r10 S11 =>
  m_chk (zK S11 b4 = 17) (
  m_chk (zK S11 q5 = 10) (
  m_chk (¬ ((zI S 5 x0) < 0 ∨ zN S11 b4 ≤ ((zI S 5 x0)).toNatClampNeg)) (
  m_bnd (zsB S11 b4 ((zI S 5 x0)).toNatClampNeg (some q5)) (fun S14 =>
  d_X1_putTag_38 x0 x1 x2 S14))))))))))) (fun b3 =>
  d_X1_putTag_38 x0 x1 x2 S)))))))
  ) (
  some (0, S)
  ))
def d_X1_putTag (x0 : Nat) (x1 : Nat) (x2 : Nat) (S : ZS) : Option (Int32 × ZS) := d_X1_putTag_0 x0 x1 x2 S
def d_X1_agreesWith_46 (self2 : Nat → Int32 → Int32 → ZS → Option (Int32 × ZS)) (x0 : Nat) (x1 : Int32) (x2 : Int32) (S : ZS) : Option (Int32 × ZS) :=
  m_bnd (x2 + (1 : Int32)) (fun v1 =>
  self2 x0 x1 v1 S)
def d_X1_agreesWith_2s (self2 : Nat → Int32 → Int32 → ZS → Option (Int32 × ZS)) (x0 : Nat) (x1 : Int32) (x2 : Int32) (S : ZS) : Option (Int32 × ZS) :=
  m_chk (zK S x0 = 1) (
  m_if ((zI S 5 x0) ≤ x2) (
  m_chk (vp_nar .boolean (1 : Int32) = (1 : Int32)) (
  some ((1 : Int32), S))
  ) (
  m_chk (zK S x0 = 1) (
  m_cal2 (d_X1_tagAt x0 x2 S) (fun r2 S3 =>
  m_chk (zK S3 r2 = 10) (
  m_cal (zP S3 0 r2) (fun b6 =>
  m_chk (zK S3 b6 = 6) (
  m_cal (f_X6_is b6 10 S3) (fun o7 => m_chk (zt o7.2 = zt S3 ∧ zu o7.2 = zu S3) (
  m_if (o7.1 = 0) (
  d_X1_agreesWith_46 self2 x0 x1 x2 o7.2
  ) (
  m_chk (zK o7.2 x0 = 1) (
  m_cal2 (d_X1_tagAt x0 x2 o7.2) (fun r9 S10 =>
  m_chk (zK S10 r9 = 10) (
  m_cal (zP S10 1 r9) (fun b13 =>
  m_cal (f_X11_resultSign x1 S10) (fun o14 => m_chk (zt o14.2 = zt S10 ∧ zu o14.2 = zu S10) (
  m_chk (zK o14.2 b13 = 6) (
  m_cal (f_X6_is b13 o14.1 o14.2) (fun o15 => m_chk (zt o15.2 = zt o14.2 ∧ zu o15.2 = zu o14.2) (
  m_if (o15.1 = 0) (
  m_chk (vp_nar .boolean (0 : Int32) = (0 : Int32)) (
  some ((0 : Int32), o15.2))
  ) (
  d_X1_agreesWith_46 self2 x0 x1 x2 o15.2
  ))))))))))
  ))))))))
  ))
def d_X1_agreesWith_2  : Nat → Nat → Int32 → Int32 → ZS → Option (Int32 × ZS)
  | 0 => fun _ _ _ _ => none
  | n + 1 => d_X1_agreesWith_2s  (d_X1_agreesWith_2  n)
def d_X1_agreesWith_0 (x0 : Nat) (x1 : Int32) (S : ZS) : Option (Int32 × ZS) :=
  d_X1_agreesWith_2 mFuel x0 x1 (0 : Int32) S
def d_X1_agreesWith (x0 : Nat) (x1 : Int32) (S : ZS) : Option (Int32 × ZS) := d_X1_agreesWith_0 x0 x1 S
def d_X7_init_0 (x0 : Nat) (S : ZS) : Option (Int32 × ZS) :=
  m_bnd (zt S) (fun q1 =>
  m_bnd (zsNewO S q1 0 7) (fun S2 =>
  m_cal2 (d_X0_init q1 S2) (fun r6 S7 =>
  m_chk (zK S7 x0 = 7) (
  m_bnd (zsP S7 0 x0 (some q1)) (fun S10 =>
  m_bnd (zt S10) (fun q11 =>
  m_bnd (zsNewO S10 q11 0 7) (fun S12 =>
  m_cal2 (d_X0_init q11 S12) (fun r16 S17 =>
  m_chk (zK S17 x0 = 7) (
  m_bnd (zsP S17 1 x0 (some q11)) (fun S20 =>
  some (0, S20)))))))))))
def d_X7_init (x0 : Nat) (S : ZS) : Option (Int32 × ZS) := d_X7_init_0 x0 S
def d_X8_init_0 (x0 : Nat) (S : ZS) : Option (Int32 × ZS) :=
  m_bnd (zt S) (fun q1 =>
  m_bnd (zsNewO S q1 7 2) (fun S2 =>
  m_cal2 (d_X7_init q1 S2) (fun r6 S7 =>
  m_chk (zK S7 x0 = 8) (
  m_bnd (zsP S7 0 x0 (some q1)) (fun S10 =>
  m_bnd (zt S10) (fun q11 =>
  m_bnd (zsNewO S10 q11 6 2) (fun S12 =>
  m_cal (f_X6_init q11 S12) (fun o15 => m_chk (zt o15.2 = zt S12 ∧ zu o15.2 = zu S12) (
  m_chk (zK o15.2 x0 = 8) (
  m_bnd (zsP o15.2 1 x0 (some q11)) (fun S16 =>
  m_chk (¬ (64 : Int32) < 0 ∧ ((64 : Int32)).toNatClampNeg * componentBytes .int ≤ 536870912) (
  m_bnd (zt S16) (fun q17 =>
  m_bnd (zsNewA S16 q17 14 ((64 : Int32)).toNatClampNeg) (fun S18 =>
  m_chk (zK S18 x0 = 8) (
  m_bnd (zsP S18 10 x0 (some q17)) (fun S21 =>
  some (0, S21)))))))))))))))))
def d_X8_init (x0 : Nat) (S : ZS) : Option (Int32 × ZS) := d_X8_init_0 x0 S
def d_X5_init_0 (x0 : Nat) (S : ZS) : Option (Int32 × ZS) :=
  m_bnd (zt S) (fun q1 =>
  m_bnd (zsNewO S q1 6 2) (fun S2 =>
  m_cal (f_X6_init q1 S2) (fun o5 => m_chk (zt o5.2 = zt S2 ∧ zu o5.2 = zu S2) (
  m_chk (zK o5.2 x0 = 5) (
  m_bnd (zsP o5.2 0 x0 (some q1)) (fun S6 =>
  m_chk (zK S6 x0 = 5) (
  m_bnd (zsI S6 1 x0 (0 : Int32)) (fun S7 =>
  some (0, S7)))))))))
def d_X5_init (x0 : Nat) (S : ZS) : Option (Int32 × ZS) := d_X5_init_0 x0 S
def d_X2_init_116s (self116 : Nat → Int32 → ZS → Option (Int32 × ZS)) (x0 : Nat) (x1 : Int32) (S : ZS) : Option (Int32 × ZS) :=
  m_if ((6 : Int32) < x1) (
  some (0, S)
  ) (
  m_chk (zK S x0 = 2) (
  m_cal (zP S 10 x0) (fun b1 =>
  m_bnd (zt S) (fun q2 =>
  m_bnd (zsNewO S q2 0 7) (fun S3 =>
  m_cal2 (d_X0_init q2 S3) (fun r7 S8 =>
  m_chk (zK S8 b1 = 15) (
  m_chk (zK S8 q2 = 0) (
  m_chk (¬ (x1 < 0 ∨ zN S8 b1 ≤ (x1).toNatClampNeg)) (
  m_bnd (zsB S8 b1 (x1).toNatClampNeg (some q2)) (fun S11 =>
  m_chk (zK S11 x0 = 2) (
  m_cal (zP S11 11 x0) (fun b12 =>
  m_bnd (zt S11) (fun q13 =>
  m_bnd (zsNewO S11 q13 0 7) (fun S14 =>
  m_cal2 (d_X0_init q13 S14) (fun r18 S19 =>
  m_chk (zK S19 b12 = 15) (
  m_chk (zK S19 q13 = 0) (
  m_chk (¬ (x1 < 0 ∨ zN S19 b12 ≤ (x1).toNatClampNeg)) (
  m_bnd (zsB S19 b12 (x1).toNatClampNeg (some q13)) (fun S22 =>
  m_bnd (x1 + (1 : Int32)) (fun v23 =>
  self116 x0 v23 S22)))))))))))))))))))
  )
def d_X2_init_116  : Nat → Nat → Int32 → ZS → Option (Int32 × ZS)
  | 0 => fun _ _ _ => none
  | n + 1 => d_X2_init_116s  (d_X2_init_116  n)
def d_X2_init_0 (x0 : Nat) (S : ZS) : Option (Int32 × ZS) :=
  m_bnd (zt S) (fun q1 =>
  m_bnd (zsNewO S q1 8 12) (fun S2 =>
  m_cal2 (d_X8_init q1 S2) (fun r6 S7 =>
  m_chk (zK S7 x0 = 2) (
  m_bnd (zsP S7 0 x0 (some q1)) (fun S10 =>
  m_bnd (zt S10) (fun q11 =>
  m_bnd (zsNewO S10 q11 5 2) (fun S12 =>
  m_cal2 (d_X5_init q11 S12) (fun r16 S17 =>
  m_chk (zK S17 x0 = 2) (
  m_bnd (zsP S17 1 x0 (some q11)) (fun S20 =>
  m_bnd (zt S20) (fun q21 =>
  m_bnd (zsNewO S20 q21 6 2) (fun S22 =>
  m_cal (f_X6_init q21 S22) (fun o25 => m_chk (zt o25.2 = zt S22 ∧ zu o25.2 = zu S22) (
  m_chk (zK o25.2 x0 = 2) (
  m_bnd (zsP o25.2 2 x0 (some q21)) (fun S26 =>
  m_bnd (zt S26) (fun q27 =>
  m_bnd (zsNewO S26 q27 1 8) (fun S28 =>
  m_cal2 (d_X1_init q27 S28) (fun r32 S33 =>
  m_chk (zK S33 x0 = 2) (
  m_bnd (zsP S33 3 x0 (some q27)) (fun S36 =>
  m_chk (zK S36 x0 = 2) (
  m_bnd (zsI S36 4 x0 (0 : Int32)) (fun S37 =>
  m_chk (zK S37 x0 = 2) (
  m_bnd (zsI S37 5 x0 (0 : Int32)) (fun S38 =>
  m_bnd (zt S38) (fun q39 =>
  m_bnd (zsNewO S38 q39 6 2) (fun S40 =>
  m_cal (f_X6_init q39 S40) (fun o43 => m_chk (zt o43.2 = zt S40 ∧ zu o43.2 = zu S40) (
  m_chk (zK o43.2 x0 = 2) (
  m_bnd (zsP o43.2 6 x0 (some q39)) (fun S44 =>
  m_bnd (zt S44) (fun q45 =>
  m_bnd (zsNewO S44 q45 6 2) (fun S46 =>
  m_cal (f_X6_init q45 S46) (fun o49 => m_chk (zt o49.2 = zt S46 ∧ zu o49.2 = zu S46) (
  m_chk (zK o49.2 x0 = 2) (
  m_bnd (zsP o49.2 7 x0 (some q45)) (fun S50 =>
  m_chk (¬ (7 : Int32) < 0 ∧ ((7 : Int32)).toNatClampNeg * componentBytes .int ≤ 536870912) (
  m_bnd (zt S50) (fun q51 =>
  m_bnd (zsNewA S50 q51 14 ((7 : Int32)).toNatClampNeg) (fun S52 =>
  m_chk (zK S52 x0 = 2) (
  m_bnd (zsP S52 8 x0 (some q51)) (fun S55 =>
  m_chk (¬ (7 : Int32) < 0 ∧ ((7 : Int32)).toNatClampNeg * componentBytes .int ≤ 536870912) (
  m_bnd (zt S55) (fun q56 =>
  m_bnd (zsNewA S55 q56 14 ((7 : Int32)).toNatClampNeg) (fun S57 =>
  m_chk (zK S57 x0 = 2) (
  m_bnd (zsP S57 9 x0 (some q56)) (fun S60 =>
  m_chk (¬ (7 : Int32) < 0 ∧ ((7 : Int32)).toNatClampNeg * 4 ≤ 536870912) (
  m_bnd (zt S60) (fun q61 =>
  m_bnd (zsNewA S60 q61 15 ((7 : Int32)).toNatClampNeg) (fun S62 =>
  m_chk (zK S62 x0 = 2) (
  m_bnd (zsP S62 10 x0 (some q61)) (fun S65 =>
  m_chk (¬ (7 : Int32) < 0 ∧ ((7 : Int32)).toNatClampNeg * 4 ≤ 536870912) (
  m_bnd (zt S65) (fun q66 =>
  m_bnd (zsNewA S65 q66 15 ((7 : Int32)).toNatClampNeg) (fun S67 =>
  m_chk (zK S67 x0 = 2) (
  m_bnd (zsP S67 11 x0 (some q66)) (fun S70 =>
  d_X2_init_116 mFuel x0 (0 : Int32) S70)))))))))))))))))))))))))))))))))))))))))))))))))))))))))
def d_X2_init (x0 : Nat) (S : ZS) : Option (Int32 × ZS) := d_X2_init_0 x0 S
def d_X2_readName_128 (t0 : Int32) (S : ZS) : Option (Int32 × ZS) :=
  m_chk (vp_nar .boolean t0 = t0) (
  some (t0, S))
def d_X2_readName_123 (S : ZS) : Option (Int32 × ZS) :=
  d_X2_readName_128 (1 : Int32) S
def d_X2_readName_101 (x0 : Nat) (S : ZS) : Option (Int32 × ZS) :=
  m_chk (zK S x0 = 2) (
  m_cal (zP S 6 x0) (fun b1 =>
  m_chk (zK S b1 = 6) (
  m_cal (f_X6_size b1 S) (fun o2 => m_chk (zt o2.2 = zt S ∧ zu o2.2 = zu S) (
  m_if (0 < o2.1) (
  d_X2_readName_123 o2.2
  ) (
  m_chk (zK o2.2 x0 = 2) (
  m_chk (zK o2.2 x0 = 2) (
  m_cal (f_X2_refuse x0 (1 : Int32) (zI o2.2 4 x0) o2.2) (fun o3 => m_chk (zt o3.2 = zt o2.2 ∧ zu o3.2 = zu o2.2) (
  m_if (o3.1 = 0) (
  d_X2_readName_128 (0 : Int32) o3.2
  ) (
  d_X2_readName_123 o3.2
  )))))
  ))))))
def d_X2_readName_70 (self22 : Nat → ZS → Option (Int32 × ZS)) (x0 : Nat) (S : ZS) : Option (Int32 × ZS) :=
  m_chk (zK S x0 = 2) (
  m_cal (zP S 6 x0) (fun b1 =>
  m_chk (zK S x0 = 2) (
  m_cal (zP S 2 x0) (fun b2 =>
  m_chk (zK S x0 = 2) (
  m_chk (zK S b2 = 6) (
  m_cal (f_X6_at b2 (zI S 4 x0) S) (fun o3 => m_chk (zt o3.2 = zt S ∧ zu o3.2 = zu S) (
  m_chk (zK o3.2 b1 = 6) (
  m_cal2 (d_X6_put b1 o3.1 o3.2) (fun r5 S6 =>
  m_chk (zK S6 x0 = 2) (
  m_bnd ((zI S6 4 x0) + (1 : Int32)) (fun v9 =>
  m_chk (zK S6 x0 = 2) (
  m_bnd (zsI S6 4 x0 v9) (fun S10 =>
  self22 x0 S10))))))))))))))
def d_X2_readName_22s (self22 : Nat → ZS → Option (Int32 × ZS)) (x0 : Nat) (S : ZS) : Option (Int32 × ZS) :=
  m_chk (zK S x0 = 2) (
  m_chk (zK S x0 = 2) (
  m_cal (zP S 2 x0) (fun b1 =>
  m_chk (zK S b1 = 6) (
  m_cal (f_X6_size b1 S) (fun o2 => m_chk (zt o2.2 = zt S ∧ zu o2.2 = zu S) (
  m_if (o2.1 ≤ (zI S 4 x0)) (
  d_X2_readName_101 x0 o2.2
  ) (
  m_chk (zK o2.2 x0 = 2) (
  m_cal (zP o2.2 2 x0) (fun b3 =>
  m_chk (zK o2.2 x0 = 2) (
  m_chk (zK o2.2 b3 = 6) (
  m_cal (f_X6_at b3 (zI o2.2 4 x0) o2.2) (fun o4 => m_chk (zt o4.2 = zt o2.2 ∧ zu o4.2 = zu o2.2) (
  m_cal (f_X11_isLetter o4.1 o4.2) (fun o5 => m_chk (zt o5.2 = zt o4.2 ∧ zu o5.2 = zu o4.2) (
  m_if (o5.1 = 0) (
  m_chk (zK o5.2 x0 = 2) (
  m_cal (zP o5.2 2 x0) (fun b6 =>
  m_chk (zK o5.2 x0 = 2) (
  m_chk (zK o5.2 b6 = 6) (
  m_cal (f_X6_at b6 (zI o5.2 4 x0) o5.2) (fun o7 => m_chk (zt o7.2 = zt o5.2 ∧ zu o7.2 = zu o5.2) (
  m_cal (f_X11_isDigit o7.1 o7.2) (fun o8 => m_chk (zt o8.2 = zt o7.2 ∧ zu o8.2 = zu o7.2) (
  m_if (o8.1 = 0) (
  d_X2_readName_101 x0 o8.2
  ) (
  d_X2_readName_70 self22 x0 o8.2
  )))))))))
  ) (
  d_X2_readName_70 self22 x0 o5.2
  )))))))))
  )))))))
def d_X2_readName_22  : Nat → Nat → ZS → Option (Int32 × ZS)
  | 0 => fun _ _ => none
  | n + 1 => d_X2_readName_22s  (d_X2_readName_22  n)
def d_X2_readName_0 (x0 : Nat) (S : ZS) : Option (Int32 × ZS) :=
  m_chk (zK S x0 = 2) (
  m_bnd ((zI S 4 x0) + (1 : Int32)) (fun v1 =>
  m_chk (zK S x0 = 2) (
  m_bnd (zsI S 4 x0 v1) (fun S2 =>
  m_chk (zK S2 x0 = 2) (
  m_cal (f_X2_skipBlanks x0 S2) (fun o3 => m_chk (zt o3.2 = zt S2 ∧ zu o3.2 = zu S2) (
  m_chk (zK o3.2 x0 = 2) (
  m_cal (zP o3.2 6 x0) (fun b4 =>
  m_chk (zK o3.2 b4 = 6) (
  m_cal (f_X6_keep b4 (0 : Int32) o3.2) (fun o5 => m_chk (zt o5.2 = zt o3.2 ∧ zu o5.2 = zu o3.2) (
  d_X2_readName_22 mFuel x0 o5.2))))))))))))
def d_X2_readName (x0 : Nat) (S : ZS) : Option (Int32 × ZS) := d_X2_readName_0 x0 S
def d_X2_readValue_142 (self48 : Nat → ZS → Option (Int32 × ZS)) (x0 : Nat) (x1 : Int32) (S : ZS) : Option (Int32 × ZS) :=
  m_if (x1 = (10 : Int32)) (
  m_chk (zK S x0 = 2) (
  m_chk (zK S x0 = 2) (
  m_cal (f_X2_refuse x0 (1 : Int32) (zI S 4 x0) S) (fun o9 => m_chk (zt o9.2 = zt S ∧ zu o9.2 = zu S) (
  m_chk (vp_nar .boolean o9.1 = o9.1) (
  some (o9.1, o9.2))))))
  ) (
  m_chk (zK S x0 = 2) (
  m_cal (zP S 7 x0) (fun b1 =>
  m_chk (zK S b1 = 6) (
  m_cal2 (d_X6_put b1 x1 S) (fun r3 S4 =>
  m_chk (zK S4 x0 = 2) (
  m_bnd ((zI S4 4 x0) + (1 : Int32)) (fun v7 =>
  m_chk (zK S4 x0 = 2) (
  m_bnd (zsI S4 4 x0 v7) (fun S8 =>
  self48 x0 S8))))))))
  )
def d_X2_readValue_48s (self48 : Nat → ZS → Option (Int32 × ZS)) (x0 : Nat) (S : ZS) : Option (Int32 × ZS) :=
  m_chk (zK S x0 = 2) (
  m_chk (zK S x0 = 2) (
  m_cal (zP S 2 x0) (fun b1 =>
  m_chk (zK S b1 = 6) (
  m_cal (f_X6_size b1 S) (fun o2 => m_chk (zt o2.2 = zt S ∧ zu o2.2 = zu S) (
  m_if (o2.1 ≤ (zI S 4 x0)) (
  m_chk (zK o2.2 x0 = 2) (
  m_chk (zK o2.2 x0 = 2) (
  m_cal (f_X2_refuse x0 (1 : Int32) (zI o2.2 4 x0) o2.2) (fun o3 => m_chk (zt o3.2 = zt o2.2 ∧ zu o3.2 = zu o2.2) (
  m_chk (vp_nar .boolean o3.1 = o3.1) (
  some (o3.1, o3.2))))))
  ) (
  m_chk (zK o2.2 x0 = 2) (
  m_cal (zP o2.2 2 x0) (fun b4 =>
  m_chk (zK o2.2 x0 = 2) (
  m_chk (zK o2.2 b4 = 6) (
  m_cal (f_X6_at b4 (zI o2.2 4 x0) o2.2) (fun o5 => m_chk (zt o5.2 = zt o2.2 ∧ zu o5.2 = zu o2.2) (
  m_if (o5.1 = (34 : Int32)) (
  m_chk (zK o5.2 x0 = 2) (
  m_bnd ((zI o5.2 4 x0) + (1 : Int32)) (fun v11 =>
  m_chk (zK o5.2 x0 = 2) (
  m_bnd (zsI o5.2 4 x0 v11) (fun S12 =>
  m_chk (vp_nar .boolean (1 : Int32) = (1 : Int32)) (
  some ((1 : Int32), S12))))))
  ) (
  m_if (o5.1 = (92 : Int32)) (
  m_chk (zK o5.2 x0 = 2) (
  m_bnd ((zI o5.2 4 x0) + (1 : Int32)) (fun v6 =>
  m_chk (zK o5.2 x0 = 2) (
  m_bnd (zsI o5.2 4 x0 v6) (fun S7 =>
  m_chk (zK S7 x0 = 2) (
  m_cal (zP S7 2 x0) (fun b8 =>
  m_chk (zK S7 x0 = 2) (
  m_chk (zK S7 b8 = 6) (
  m_cal (f_X6_at b8 (zI S7 4 x0) S7) (fun o9 => m_chk (zt o9.2 = zt S7 ∧ zu o9.2 = zu S7) (
  m_if (o9.1 = (34 : Int32)) (
  d_X2_readValue_142 self48 x0 o9.1 o9.2
  ) (
  m_if (o9.1 = (92 : Int32)) (
  d_X2_readValue_142 self48 x0 o9.1 o9.2
  ) (
  m_chk (zK o9.2 x0 = 2) (
  m_chk (zK o9.2 x0 = 2) (
  m_cal (f_X2_refuse x0 (1 : Int32) (zI o9.2 4 x0) o9.2) (fun o10 => m_chk (zt o10.2 = zt o9.2 ∧ zu o10.2 = zu o9.2) (
  m_chk (vp_nar .boolean o10.1 = o10.1) (
  some (o10.1, o10.2))))))
  )
  )))))))))))
  ) (
  d_X2_readValue_142 self48 x0 o5.1 o5.2
  )
  )))))))
  )))))))
def d_X2_readValue_48  : Nat → Nat → ZS → Option (Int32 × ZS)
  | 0 => fun _ _ => none
  | n + 1 => d_X2_readValue_48s  (d_X2_readValue_48  n)
def d_X2_readValue_0 (x0 : Nat) (S : ZS) : Option (Int32 × ZS) :=
  m_chk (zK S x0 = 2) (
  m_cal (f_X2_skipBlanks x0 S) (fun o1 => m_chk (zt o1.2 = zt S ∧ zu o1.2 = zu S) (
  m_chk (zK o1.2 x0 = 2) (
  m_cal (zP o1.2 2 x0) (fun b2 =>
  m_chk (zK o1.2 x0 = 2) (
  m_chk (zK o1.2 b2 = 6) (
  m_cal (f_X6_at b2 (zI o1.2 4 x0) o1.2) (fun o3 => m_chk (zt o3.2 = zt o1.2 ∧ zu o3.2 = zu o1.2) (
  m_if (o3.1 = (34 : Int32)) (
  m_chk (zK o3.2 x0 = 2) (
  m_cal (zP o3.2 7 x0) (fun b4 =>
  m_chk (zK o3.2 b4 = 6) (
  m_cal (f_X6_keep b4 (0 : Int32) o3.2) (fun o5 => m_chk (zt o5.2 = zt o3.2 ∧ zu o5.2 = zu o3.2) (
  m_chk (zK o5.2 x0 = 2) (
  m_bnd ((zI o5.2 4 x0) + (1 : Int32)) (fun v6 =>
  m_chk (zK o5.2 x0 = 2) (
  m_bnd (zsI o5.2 4 x0 v6) (fun S7 =>
  d_X2_readValue_48 mFuel x0 S7)))))))))
  ) (
  m_chk (zK o3.2 x0 = 2) (
  m_chk (zK o3.2 x0 = 2) (
  m_cal (f_X2_refuse x0 (1 : Int32) (zI o3.2 4 x0) o3.2) (fun o8 => m_chk (zt o8.2 = zt o3.2 ∧ zu o8.2 = zu o3.2) (
  m_chk (vp_nar .boolean o8.1 = o8.1) (
  some (o8.1, o8.2))))))
  ))))))))))
def d_X2_readValue (x0 : Nat) (S : ZS) : Option (Int32 × ZS) := d_X2_readValue_0 x0 S
def d_X2_readTag_19 (S : ZS) : Option (Int32 × ZS) :=
  m_chk (vp_nar .boolean (0 : Int32) = (0 : Int32)) (
  some ((0 : Int32), S))
def d_X2_readTag_111 (x0 : Nat) (x1 : Int32) (S : ZS) : Option (Int32 × ZS) :=
  m_chk (zK S x0 = 2) (
  m_cal (f_X2_refuse x0 (2 : Int32) x1 S) (fun o1 => m_chk (zt o1.2 = zt S ∧ zu o1.2 = zu S) (
  m_chk (vp_nar .boolean o1.1 = o1.1) (
  some (o1.1, o1.2)))))
def d_X2_readTag_158 (x0 : Nat) (S : ZS) : Option (Int32 × ZS) :=
  m_chk (zK S x0 = 2) (
  m_cal (zP S 3 x0) (fun b1 =>
  m_chk (zK S x0 = 2) (
  m_cal (zP S 6 x0) (fun b2 =>
  m_chk (zK S x0 = 2) (
  m_cal (zP S 7 x0) (fun b3 =>
  m_chk (zK S b1 = 1) (
  m_cal2 (d_X1_putTag b1 b2 b3 S) (fun r5 S6 =>
  m_chk (vp_nar .boolean (1 : Int32) = (1 : Int32)) (
  some ((1 : Int32), S6))))))))))
def d_X2_readTag_0 (x0 : Nat) (S : ZS) : Option (Int32 × ZS) :=
  m_chk (zK S x0 = 2) (
  m_chk (zK S x0 = 2) (
  m_cal2 (d_X2_readName x0 S) (fun r2 S3 =>
  m_if (r2 = 0) (
  d_X2_readTag_19 S3
  ) (
  m_chk (zK S3 x0 = 2) (
  m_cal2 (d_X2_readValue x0 S3) (fun r7 S8 =>
  m_if (r7 = 0) (
  d_X2_readTag_19 S8
  ) (
  m_chk (zK S8 x0 = 2) (
  m_cal (f_X2_skipBlanks x0 S8) (fun o11 => m_chk (zt o11.2 = zt S8 ∧ zu o11.2 = zu S8) (
  m_chk (zK o11.2 x0 = 2) (
  m_cal (zP o11.2 2 x0) (fun b12 =>
  m_chk (zK o11.2 x0 = 2) (
  m_chk (zK o11.2 b12 = 6) (
  m_cal (f_X6_at b12 (zI o11.2 4 x0) o11.2) (fun o13 => m_chk (zt o13.2 = zt o11.2 ∧ zu o13.2 = zu o11.2) (
  m_if (o13.1 = (93 : Int32)) (
  m_chk (zK o13.2 x0 = 2) (
  m_bnd ((zI o13.2 4 x0) + (1 : Int32)) (fun v14 =>
  m_chk (zK o13.2 x0 = 2) (
  m_bnd (zsI o13.2 4 x0 v14) (fun S15 =>
  m_chk (zK S15 x0 = 2) (
  m_cal (zP S15 3 x0) (fun b16 =>
  m_chk (zK S15 b16 = 1) (
  m_if ((8 : Int32) ≤ (zI S15 5 b16)) (
  d_X2_readTag_111 x0 (zI S 4 x0) S15
  ) (
  m_chk (zK S15 x0 = 2) (
  m_cal (zP S15 6 x0) (fun b17 =>
  m_chk (zK S15 b17 = 6) (
  m_cal (f_X6_size b17 S15) (fun o18 => m_chk (zt o18.2 = zt S15 ∧ zu o18.2 = zu S15) (
  m_if ((12 : Int32) < o18.1) (
  d_X2_readTag_111 x0 (zI S 4 x0) o18.2
  ) (
  m_chk (zK o18.2 x0 = 2) (
  m_cal (zP o18.2 3 x0) (fun b19 =>
  m_chk (zK o18.2 x0 = 2) (
  m_cal (zP o18.2 6 x0) (fun b20 =>
  m_chk (zK o18.2 b19 = 1) (
  m_cal2 (d_X1_hasTag b19 b20 o18.2) (fun r22 S23 =>
  m_if (r22 = 0) (
  m_chk (zK S23 x0 = 2) (
  m_cal (zP S23 7 x0) (fun b26 =>
  m_chk (zK S23 b26 = 6) (
  m_cal (f_X6_size b26 S23) (fun o27 => m_chk (zt o27.2 = zt S23 ∧ zu o27.2 = zu S23) (
  m_if (o27.1 ≤ (96 : Int32)) (
  m_chk (zK o27.2 x0 = 2) (
  m_cal (zP o27.2 6 x0) (fun b28 =>
  m_chk (zK o27.2 b28 = 6) (
  m_cal (f_X6_is b28 0 o27.2) (fun o29 => m_chk (zt o29.2 = zt o27.2 ∧ zu o29.2 = zu o27.2) (
  m_if (o29.1 = 0) (
  d_X2_readTag_158 x0 o29.2
  ) (
  m_chk (zK o29.2 x0 = 2) (
  m_cal (zP o29.2 1 x0) (fun b30 =>
  m_chk (zK o29.2 x0 = 2) (
  m_cal (zP o29.2 3 x0) (fun b31 =>
  m_chk (zK o29.2 b31 = 1) (
  m_cal (zP o29.2 0 b31) (fun b32 =>
  m_chk (zK o29.2 x0 = 2) (
  m_cal (zP o29.2 7 x0) (fun b33 =>
  m_chk (zK o29.2 b30 = 5) (
  m_cal (f_X5_readInto b30 b32 b33 o29.2) (fun o34 => m_chk (zt o34.2 = zt o29.2 ∧ zu o34.2 = zu o29.2) (
  m_if (o34.1 = 0) (
  m_chk (zK o34.2 x0 = 2) (
  m_cal (f_X2_refuse x0 (3 : Int32) (zI S 4 x0) o34.2) (fun o35 => m_chk (zt o35.2 = zt o34.2 ∧ zu o35.2 = zu o34.2) (
  m_chk (vp_nar .boolean o35.1 = o35.1) (
  some (o35.1, o35.2)))))
  ) (
  d_X2_readTag_158 x0 o34.2
  ))))))))))))
  ))))))
  ) (
  d_X2_readTag_111 x0 (zI S 4 x0) o27.2
  ))))))
  ) (
  d_X2_readTag_111 x0 (zI S 4 x0) S23
  )))))))
  ))))))
  ))))))))
  ) (
  m_chk (zK o13.2 x0 = 2) (
  m_chk (zK o13.2 x0 = 2) (
  m_cal (f_X2_refuse x0 (1 : Int32) (zI o13.2 4 x0) o13.2) (fun o36 => m_chk (zt o36.2 = zt o13.2 ∧ zu o36.2 = zu o13.2) (
  m_chk (vp_nar .boolean o36.1 = o36.1) (
  some (o36.1, o36.2))))))
  ))))))))))
  )))
  ))))
def d_X2_readTag (x0 : Nat) (S : ZS) : Option (Int32 × ZS) := d_X2_readTag_0 x0 S
def d_X4_joinRemark_96 (self64 : Nat → Nat → Int32 → Int32 → ZS → Option (Int32 × ZS)) (x0 : Nat) (x1 : Nat) (x3 : Int32) (x5 : Int32) (t0 : Int32) (t1 : Nat) (S : ZS) : Option (Int32 × ZS) :=
  m_chk (zK S t1 = 6) (
  m_cal2 (d_X6_put t1 t0 S) (fun r2 S3 =>
  m_bnd (x5 + (1 : Int32)) (fun v6 =>
  self64 x0 x1 x3 v6 S3)))
def d_X4_joinRemark_64s (self64 : Nat → Nat → Int32 → Int32 → ZS → Option (Int32 × ZS)) (x0 : Nat) (x1 : Nat) (x3 : Int32) (x5 : Int32) (S : ZS) : Option (Int32 × ZS) :=
  m_if (x3 ≤ x5) (
  m_chk (vp_nar .boolean (1 : Int32) = (1 : Int32)) (
  some ((1 : Int32), S))
  ) (
  m_chk (zK S x0 = 4) (
  m_cal (zP S 6 x0) (fun b1 =>
  m_chk (zK S x1 = 6) (
  m_cal (f_X6_at x1 x5 S) (fun o2 => m_chk (zt o2.2 = zt S ∧ zu o2.2 = zu S) (
  m_if (o2.1 = (10 : Int32)) (
  d_X4_joinRemark_96 self64 x0 x1 x3 x5 (32 : Int32) b1 o2.2
  ) (
  m_chk (zK o2.2 x1 = 6) (
  m_cal (f_X6_at x1 x5 o2.2) (fun o3 => m_chk (zt o3.2 = zt o2.2 ∧ zu o3.2 = zu o2.2) (
  d_X4_joinRemark_96 self64 x0 x1 x3 x5 o3.1 b1 o3.2)))
  ))))))
  )
def d_X4_joinRemark_64  : Nat → Nat → Nat → Int32 → Int32 → ZS → Option (Int32 × ZS)
  | 0 => fun _ _ _ _ _ => none
  | n + 1 => d_X4_joinRemark_64s  (d_X4_joinRemark_64  n)
def d_X4_joinRemark_61 (x0 : Nat) (x1 : Nat) (x2 : Int32) (x3 : Int32) (S : ZS) : Option (Int32 × ZS) :=
  d_X4_joinRemark_64 mFuel x0 x1 x3 x2 S
def d_X4_joinRemark_22 (x0 : Nat) (x1 : Nat) (x2 : Int32) (x3 : Int32) (t0 : Int32) (S : ZS) : Option (Int32 × ZS) :=
  m_chk (zK S x0 = 4) (
  m_cal (zP S 6 x0) (fun b1 =>
  m_chk (zK S b1 = 6) (
  m_cal (f_X6_size b1 S) (fun o2 => m_chk (zt o2.2 = zt S ∧ zu o2.2 = zu S) (
  m_bnd (o2.1 + t0) (fun v3 =>
  m_bnd (v3 + x3) (fun v4 =>
  m_bnd (v4 - x2) (fun v5 =>
  m_if (v5 ≤ (200 : Int32)) (
  m_if (t0 = (1 : Int32)) (
  m_chk (zK o2.2 x0 = 4) (
  m_cal (zP o2.2 6 x0) (fun b6 =>
  m_chk (zK o2.2 b6 = 6) (
  m_cal2 (d_X6_put b6 (32 : Int32) o2.2) (fun r8 S9 =>
  d_X4_joinRemark_61 x0 x1 x2 x3 S9))))
  ) (
  d_X4_joinRemark_61 x0 x1 x2 x3 o2.2
  )
  ) (
  m_chk (vp_nar .boolean (0 : Int32) = (0 : Int32)) (
  some ((0 : Int32), o2.2))
  )))))))))
def d_X4_joinRemark_0 (x0 : Nat) (x1 : Nat) (x2 : Int32) (x3 : Int32) (S : ZS) : Option (Int32 × ZS) :=
  m_if (x2 < x3) (
  m_chk (zK S x0 = 4) (
  m_cal (zP S 6 x0) (fun b1 =>
  m_chk (zK S b1 = 6) (
  m_cal (f_X6_size b1 S) (fun o2 => m_chk (zt o2.2 = zt S ∧ zu o2.2 = zu S) (
  m_if (o2.1 ≤ 0) (
  d_X4_joinRemark_22 x0 x1 x2 x3 (0 : Int32) o2.2
  ) (
  d_X4_joinRemark_22 x0 x1 x2 x3 (1 : Int32) o2.2
  ))))))
  ) (
  m_chk (vp_nar .boolean (1 : Int32) = (1 : Int32)) (
  some ((1 : Int32), S))
  )
def d_X4_joinRemark (x0 : Nat) (x1 : Nat) (x2 : Int32) (x3 : Int32) (S : ZS) : Option (Int32 × ZS) := d_X4_joinRemark_0 x0 x1 x2 x3 S
def d_X2_readRemark_91 (x0 : Nat) (x1 : Nat) (x2 : Int32) (x5 : Int32) (S : ZS) : Option (Int32 × ZS) :=
  m_chk (zK S x0 = 2) (
  m_cal (zP S 2 x0) (fun b1 =>
  m_bnd (x2 + (1 : Int32)) (fun v2 =>
  m_chk (zK S x1 = 4) (
  m_cal2 (d_X4_joinRemark x1 b1 v2 x5 S) (fun r4 S5 =>
  m_if (r4 = 0) (
  m_chk (zK S5 x0 = 2) (
  m_cal (f_X2_refuse x0 (8 : Int32) x2 S5) (fun o13 => m_chk (zt o13.2 = zt S5 ∧ zu o13.2 = zu S5) (
  m_chk (vp_nar .boolean o13.1 = o13.1) (
  some (o13.1, o13.2)))))
  ) (
  m_bnd (x5 + (1 : Int32)) (fun v8 =>
  m_chk (zK S5 x0 = 2) (
  m_cal (zP S5 2 x0) (fun b9 =>
  m_chk (zK S5 b9 = 6) (
  m_cal (f_X6_size b9 S5) (fun o10 => m_chk (zt o10.2 = zt S5 ∧ zu o10.2 = zu S5) (
  m_bnd (if o10.1 < v8 then o10.1 else v8) (fun v11 =>
  m_chk (zK o10.2 x0 = 2) (
  m_bnd (zsI o10.2 4 x0 v11) (fun S12 =>
  m_chk (vp_nar .boolean (1 : Int32) = (1 : Int32)) (
  some ((1 : Int32), S12)))))))))))
  ))))))
def d_X2_readRemark_83 (x0 : Nat) (x4 : Int32) (S : ZS) : Option (Int32 × ZS) :=
  m_chk (zK S x0 = 2) (
  m_cal (f_X2_refuse x0 (1 : Int32) x4 S) (fun o1 => m_chk (zt o1.2 = zt S ∧ zu o1.2 = zu S) (
  m_chk (vp_nar .boolean o1.1 = o1.1) (
  some (o1.1, o1.2)))))
def d_X2_readRemark_55 (x0 : Nat) (x1 : Nat) (x2 : Int32) (x3 : Int32) (x4 : Int32) (t0 : Int32) (S : ZS) : Option (Int32 × ZS) :=
  m_if (x3 = 0) (
  m_if (t0 ≤ x4) (
  d_X2_readRemark_91 x0 x1 x2 t0 S
  ) (
  d_X2_readRemark_83 x0 x4 S
  )
  ) (
  m_chk (zK S x0 = 2) (
  m_cal (zP S 2 x0) (fun b1 =>
  m_chk (zK S b1 = 6) (
  m_cal (f_X6_size b1 S) (fun o2 => m_chk (zt o2.2 = zt S ∧ zu o2.2 = zu S) (
  m_if (x4 = o2.1) (
  d_X2_readRemark_83 x0 x4 o2.2
  ) (
  d_X2_readRemark_91 x0 x1 x2 t0 o2.2
  ))))))
  )
def d_X2_readRemark_23 (x0 : Nat) (x1 : Nat) (x2 : Int32) (t0 : Int32) (S : ZS) : Option (Int32 × ZS) :=
  m_chk (zK S x0 = 2) (
  m_cal (zP S 2 x0) (fun b1 =>
  m_chk (zK S b1 = 6) (
  m_cal (f_X6_indexOf b1 (125 : Int32) x2 S) (fun o2 => m_chk (zt o2.2 = zt S ∧ zu o2.2 = zu S) (
  m_if (t0 = 0) (
  m_chk (zK o2.2 x0 = 2) (
  m_cal (zP o2.2 2 x0) (fun b3 =>
  m_chk (zK o2.2 b3 = 6) (
  m_cal (f_X6_indexOf b3 (10 : Int32) x2 o2.2) (fun o4 => m_chk (zt o4.2 = zt o2.2 ∧ zu o4.2 = zu o2.2) (
  d_X2_readRemark_55 x0 x1 x2 t0 o2.1 o4.1 o4.2)))))
  ) (
  d_X2_readRemark_55 x0 x1 x2 t0 o2.1 o2.1 o2.2
  ))))))
def d_X2_readRemark_0 (x0 : Nat) (x1 : Nat) (S : ZS) : Option (Int32 × ZS) :=
  m_chk (zK S x0 = 2) (
  m_chk (zK S x0 = 2) (
  m_cal (zP S 2 x0) (fun b1 =>
  m_chk (zK S b1 = 6) (
  m_cal (f_X6_at b1 (zI S 4 x0) S) (fun o2 => m_chk (zt o2.2 = zt S ∧ zu o2.2 = zu S) (
  m_if (o2.1 = (123 : Int32)) (
  d_X2_readRemark_23 x0 x1 (zI S 4 x0) (1 : Int32) o2.2
  ) (
  d_X2_readRemark_23 x0 x1 (zI S 4 x0) (0 : Int32) o2.2
  )))))))
def d_X2_readRemark (x0 : Nat) (x1 : Nat) (S : ZS) : Option (Int32 × ZS) := d_X2_readRemark_0 x0 x1 S
def d_X2_readRemarks_67 (x2 : Int32) (S : ZS) : Option (Int32 × ZS) :=
  m_chk (vp_nar .boolean x2 = x2) (
  some (x2, S))
def d_X2_readRemarks_51 (self8 : Nat → Nat → Int32 → Int32 → ZS → Option (Int32 × ZS)) (x0 : Nat) (x1 : Nat) (x3 : Int32) (S : ZS) : Option (Int32 × ZS) :=
  m_chk (zK S x0 = 2) (
  m_cal2 (d_X2_readRemark x0 x1 S) (fun r2 S3 =>
  m_chk (zK S3 x0 = 2) (
  m_cal (f_X2_skipBlanks x0 S3) (fun o6 => m_chk (zt o6.2 = zt S3 ∧ zu o6.2 = zu S3) (
  m_bnd (x3 + (1 : Int32)) (fun v7 =>
  self8 x0 x1 r2 v7 o6.2))))))
def d_X2_readRemarks_8s (self8 : Nat → Nat → Int32 → Int32 → ZS → Option (Int32 × ZS)) (x0 : Nat) (x1 : Nat) (x2 : Int32) (x3 : Int32) (S : ZS) : Option (Int32 × ZS) :=
  m_if ((2000 : Int32) ≤ x3) (
  d_X2_readRemarks_67 x2 S
  ) (
  m_if (x2 = 0) (
  d_X2_readRemarks_67 x2 S
  ) (
  m_chk (zK S x0 = 2) (
  m_cal (zP S 2 x0) (fun b1 =>
  m_chk (zK S x0 = 2) (
  m_chk (zK S b1 = 6) (
  m_cal (f_X6_at b1 (zI S 4 x0) S) (fun o2 => m_chk (zt o2.2 = zt S ∧ zu o2.2 = zu S) (
  m_if (o2.1 = (123 : Int32)) (
  d_X2_readRemarks_51 self8 x0 x1 x3 o2.2
  ) (
  m_chk (zK o2.2 x0 = 2) (
  m_cal (zP o2.2 2 x0) (fun b3 =>
  m_chk (zK o2.2 x0 = 2) (
  m_chk (zK o2.2 b3 = 6) (
  m_cal (f_X6_at b3 (zI o2.2 4 x0) o2.2) (fun o4 => m_chk (zt o4.2 = zt o2.2 ∧ zu o4.2 = zu o2.2) (
  m_if (o4.1 = (59 : Int32)) (
  d_X2_readRemarks_51 self8 x0 x1 x3 o4.2
  ) (
  d_X2_readRemarks_67 x2 o4.2
  )))))))
  )))))))
  )
  )
def d_X2_readRemarks_8  : Nat → Nat → Nat → Int32 → Int32 → ZS → Option (Int32 × ZS)
  | 0 => fun _ _ _ _ _ => none
  | n + 1 => d_X2_readRemarks_8s  (d_X2_readRemarks_8  n)
def d_X2_readRemarks_0 (x0 : Nat) (x1 : Nat) (S : ZS) : Option (Int32 × ZS) :=
  m_chk (zK S x0 = 2) (
  m_cal (f_X2_skipBlanks x0 S) (fun o1 => m_chk (zt o1.2 = zt S ∧ zu o1.2 = zu S) (
  d_X2_readRemarks_8 mFuel x0 x1 (1 : Int32) (0 : Int32) o1.2)))
def d_X2_readRemarks (x0 : Nat) (x1 : Nat) (S : ZS) : Option (Int32 × ZS) := d_X2_readRemarks_0 x0 x1 S
def d_X2_readHead_74 (t0 : Int32) (S : ZS) : Option (Int32 × ZS) :=
  m_chk (vp_nar .boolean t0 = t0) (
  some (t0, S))
def d_X2_readHead_73 (S : ZS) : Option (Int32 × ZS) :=
  d_X2_readHead_74 (0 : Int32) S
def d_X2_readHead_50 (x0 : Nat) (x1 : Int32) (S : ZS) : Option (Int32 × ZS) :=
  m_if (x1 = 0) (
  d_X2_readHead_73 S
  ) (
  m_chk (zK S x0 = 2) (
  m_cal (zP S 3 x0) (fun b1 =>
  m_chk (zK S b1 = 1) (
  m_cal (f_X1_at b1 (0 : Int32) S) (fun o2 => m_chk (zt o2.2 = zt S ∧ zu o2.2 = zu S) (
  m_chk (zK o2.2 x0 = 2) (
  m_cal2 (d_X2_readRemarks x0 o2.1 o2.2) (fun r4 S5 =>
  m_if (r4 = 0) (
  d_X2_readHead_73 S5
  ) (
  d_X2_readHead_74 (1 : Int32) S5
  ))))))))
  )
def d_X2_readHead_8s (self8 : Nat → Int32 → Int32 → ZS → Option (Int32 × ZS)) (x0 : Nat) (x1 : Int32) (x2 : Int32) (S : ZS) : Option (Int32 × ZS) :=
  m_if ((2000 : Int32) ≤ x2) (
  d_X2_readHead_50 x0 x1 S
  ) (
  m_if (x1 = 0) (
  d_X2_readHead_50 x0 x1 S
  ) (
  m_chk (zK S x0 = 2) (
  m_cal (zP S 2 x0) (fun b1 =>
  m_chk (zK S x0 = 2) (
  m_chk (zK S b1 = 6) (
  m_cal (f_X6_at b1 (zI S 4 x0) S) (fun o2 => m_chk (zt o2.2 = zt S ∧ zu o2.2 = zu S) (
  m_if (o2.1 = (91 : Int32)) (
  m_chk (zK o2.2 x0 = 2) (
  m_cal2 (d_X2_readTag x0 o2.2) (fun r4 S5 =>
  m_chk (zK S5 x0 = 2) (
  m_cal (f_X2_skipBlanks x0 S5) (fun o8 => m_chk (zt o8.2 = zt S5 ∧ zu o8.2 = zu S5) (
  m_bnd (x2 + (1 : Int32)) (fun v9 =>
  self8 x0 r4 v9 o8.2))))))
  ) (
  d_X2_readHead_50 x0 x1 o2.2
  )))))))
  )
  )
def d_X2_readHead_8  : Nat → Nat → Int32 → Int32 → ZS → Option (Int32 × ZS)
  | 0 => fun _ _ _ _ => none
  | n + 1 => d_X2_readHead_8s  (d_X2_readHead_8  n)
def d_X2_readHead_0 (x0 : Nat) (S : ZS) : Option (Int32 × ZS) :=
  m_chk (zK S x0 = 2) (
  m_cal (f_X2_skipBlanks x0 S) (fun o1 => m_chk (zt o1.2 = zt S ∧ zu o1.2 = zu S) (
  d_X2_readHead_8 mFuel x0 (1 : Int32) (0 : Int32) o1.2)))
def d_X2_readHead (x0 : Nat) (S : ZS) : Option (Int32 × ZS) := d_X2_readHead_0 x0 S
def d_X8_copyWhole_113 (S : ZS) : Option (Int32 × ZS) :=
  some (0, S)
def d_X8_copyWhole_87 (x0 : Nat) (t0 : Int32) (t1 : Nat) (S : ZS) : Option (Int32 × ZS) :=
  m_chk (zK S t1 = 8) (
  m_chk (vp_nar .char t0 = t0 ∧ fits .char (.int t0) = true) (
  m_bnd (zsI S 9 t1 t0) (fun S1 =>
  m_chk (zK S1 x0 = 8) (
  m_if ((zI S1 9 x0) = 0) (
  d_X8_copyWhole_113 S1
  ) (
  m_chk (zK S1 x0 = 8) (
  m_cal (zP S1 1 x0) (fun b2 =>
  m_chk (zK S1 x0 = 8) (
  m_cal (zP S1 1 x0) (fun b3 =>
  m_chk (zK S1 b3 = 6) (
  m_cal (f_X6_size b3 S1) (fun o4 => m_chk (zt o4.2 = zt S1 ∧ zu o4.2 = zu S1) (
  m_bnd (o4.1 - (1 : Int32)) (fun v5 =>
  m_chk (zK o4.2 b2 = 6) (
  m_cal (f_X6_keep b2 v5 o4.2) (fun o6 => m_chk (zt o6.2 = zt o4.2 ∧ zu o6.2 = zu o4.2) (
  d_X8_copyWhole_113 o6.2)))))))))))
  )))))
def d_X8_copyWhole_81 (x0 : Nat) (x4 : Int32) (t0 : Nat) (S : ZS) : Option (Int32 × ZS) :=
  d_X8_copyWhole_87 x0 x4 t0 S
def d_X8_copyWhole_48 (x0 : Nat) (S : ZS) : Option (Int32 × ZS) :=
  m_chk (zK S x0 = 8) (
  m_cal (zP S 1 x0) (fun b1 =>
  m_chk (zK S x0 = 8) (
  m_cal (zP S 1 x0) (fun b2 =>
  m_chk (zK S b2 = 6) (
  m_cal (f_X6_size b2 S) (fun o3 => m_chk (zt o3.2 = zt S ∧ zu o3.2 = zu S) (
  m_bnd (o3.1 - (1 : Int32)) (fun v4 =>
  m_chk (zK o3.2 b1 = 6) (
  m_cal (f_X6_at b1 v4 o3.2) (fun o5 => m_chk (zt o5.2 = zt o3.2 ∧ zu o5.2 = zu o3.2) (
  m_if (o5.1 = (43 : Int32)) (
  d_X8_copyWhole_81 x0 o5.1 x0 o5.2
  ) (
  m_if (o5.1 = (35 : Int32)) (
  d_X8_copyWhole_81 x0 o5.1 x0 o5.2
  ) (
  d_X8_copyWhole_87 x0 (0 : Int32) x0 o5.2
  )
  ))))))))))))
def d_X8_copyWhole_11s (self11 : Nat → Nat → Int32 → Int32 → ZS → Option (Int32 × ZS)) (x0 : Nat) (x1 : Nat) (x3 : Int32) (x4 : Int32) (S : ZS) : Option (Int32 × ZS) :=
  m_if (x3 ≤ x4) (
  d_X8_copyWhole_48 x0 S
  ) (
  m_chk (zK S x0 = 8) (
  m_cal (zP S 1 x0) (fun b1 =>
  m_chk (zK S b1 = 6) (
  m_cal (f_X6_size b1 S) (fun o2 => m_chk (zt o2.2 = zt S ∧ zu o2.2 = zu S) (
  m_if ((7 : Int32) < o2.1) (
  d_X8_copyWhole_48 x0 o2.2
  ) (
  m_chk (zK o2.2 x0 = 8) (
  m_cal (zP o2.2 1 x0) (fun b3 =>
  m_chk (zK o2.2 x1 = 6) (
  m_cal (f_X6_at x1 x4 o2.2) (fun o4 => m_chk (zt o4.2 = zt o2.2 ∧ zu o4.2 = zu o2.2) (
  m_chk (zK o4.2 b3 = 6) (
  m_cal2 (d_X6_put b3 o4.1 o4.2) (fun r6 S7 =>
  m_bnd (x4 + (1 : Int32)) (fun v10 =>
  self11 x0 x1 x3 v10 S7))))))))
  ))))))
  )
def d_X8_copyWhole_11  : Nat → Nat → Nat → Int32 → Int32 → ZS → Option (Int32 × ZS)
  | 0 => fun _ _ _ _ _ => none
  | n + 1 => d_X8_copyWhole_11s  (d_X8_copyWhole_11  n)
def d_X8_copyWhole_0 (x0 : Nat) (x1 : Nat) (x2 : Int32) (x3 : Int32) (S : ZS) : Option (Int32 × ZS) :=
  m_chk (zK S x0 = 8) (
  m_cal (zP S 1 x0) (fun b1 =>
  m_chk (zK S b1 = 6) (
  m_cal (f_X6_keep b1 (0 : Int32) S) (fun o2 => m_chk (zt o2.2 = zt S ∧ zu o2.2 = zu S) (
  d_X8_copyWhole_11 mFuel x0 x1 x3 x2 o2.2)))))
def d_X8_copyWhole (x0 : Nat) (x1 : Nat) (x2 : Int32) (x3 : Int32) (S : ZS) : Option (Int32 × ZS) := d_X8_copyWhole_0 x0 x1 x2 x3 S
def d_X8_copyBare_73 (S : ZS) : Option (Int32 × ZS) :=
  some (0, S)
def d_X8_copyBare_67 (self11 : Nat → Nat → Int32 → Int32 → ZS → Option (Int32 × ZS)) (x0 : Nat) (x1 : Nat) (x3 : Int32) (x4 : Int32) (S : ZS) : Option (Int32 × ZS) :=
  m_bnd (x4 + (1 : Int32)) (fun v1 =>
  self11 x0 x1 x3 v1 S)
def d_X8_copyBare_11s (self11 : Nat → Nat → Int32 → Int32 → ZS → Option (Int32 × ZS)) (x0 : Nat) (x1 : Nat) (x3 : Int32) (x4 : Int32) (S : ZS) : Option (Int32 × ZS) :=
  m_if (x3 ≤ x4) (
  d_X8_copyBare_73 S
  ) (
  m_chk (zK S x0 = 8) (
  m_cal (zP S 1 x0) (fun b1 =>
  m_chk (zK S b1 = 6) (
  m_cal (f_X6_size b1 S) (fun o2 => m_chk (zt o2.2 = zt S ∧ zu o2.2 = zu S) (
  m_if ((7 : Int32) < o2.1) (
  d_X8_copyBare_73 o2.2
  ) (
  m_chk (zK o2.2 x1 = 6) (
  m_cal (f_X6_at x1 x4 o2.2) (fun o3 => m_chk (zt o3.2 = zt o2.2 ∧ zu o3.2 = zu o2.2) (
  m_if (o3.1 = (120 : Int32)) (
  d_X8_copyBare_67 self11 x0 x1 x3 x4 o3.2
  ) (
  m_if (o3.1 = (43 : Int32)) (
  d_X8_copyBare_67 self11 x0 x1 x3 x4 o3.2
  ) (
  m_if (o3.1 = (35 : Int32)) (
  d_X8_copyBare_67 self11 x0 x1 x3 x4 o3.2
  ) (
  m_chk (zK o3.2 x0 = 8) (
  m_cal (zP o3.2 1 x0) (fun b4 =>
  m_chk (zK o3.2 b4 = 6) (
  m_cal2 (d_X6_put b4 o3.1 o3.2) (fun r6 S7 =>
  d_X8_copyBare_67 self11 x0 x1 x3 x4 S7))))
  )
  )
  ))))
  ))))))
  )
def d_X8_copyBare_11  : Nat → Nat → Nat → Int32 → Int32 → ZS → Option (Int32 × ZS)
  | 0 => fun _ _ _ _ _ => none
  | n + 1 => d_X8_copyBare_11s  (d_X8_copyBare_11  n)
def d_X8_copyBare_0 (x0 : Nat) (x1 : Nat) (x2 : Int32) (x3 : Int32) (S : ZS) : Option (Int32 × ZS) :=
  m_chk (zK S x0 = 8) (
  m_cal (zP S 1 x0) (fun b1 =>
  m_chk (zK S b1 = 6) (
  m_cal (f_X6_keep b1 (0 : Int32) S) (fun o2 => m_chk (zt o2.2 = zt S ∧ zu o2.2 = zu S) (
  d_X8_copyBare_11 mFuel x0 x1 x3 x2 o2.2)))))
def d_X8_copyBare (x0 : Nat) (x1 : Nat) (x2 : Int32) (x3 : Int32) (S : ZS) : Option (Int32 × ZS) := d_X8_copyBare_0 x0 x1 x2 x3 S
def d_X8_matched_144 (t0 : Int32) (S : ZS) : Option (Int32 × ZS) :=
  some (t0, S)
def d_X8_matched_103 (x0 : Nat) (x1 : Nat) (x2 : Nat) (x3 : Int32) (x4 : Int32) (S : ZS) : Option (Int32 × ZS) :=
  m_chk (zK S x0 = 8) (
  m_cal2 (d_X8_copyBare x0 x2 x3 x4 S) (fun r2 S3 =>
  m_chk (zK S3 x0 = 8) (
  m_cal (f_X8_parse x0 S3) (fun o6 => m_chk (zt o6.2 = zt S3 ∧ zu o6.2 = zu S3) (
  m_if (o6.1 = 0) (
  some ((-1 : Int32), o6.2)
  ) (
  m_chk (zK o6.2 x0 = 8) (
  m_bnd (zsI o6.2 8 x0 (-1 : Int32)) (fun S7 =>
  m_chk (zK S7 x0 = 8) (
  m_cal (f_X8_gather x0 x1 S7) (fun o8 => m_chk (zt o8.2 = zt S7 ∧ zu o8.2 = zu S7) (
  m_chk (zK o8.2 x0 = 8) (
  m_if ((zI o8.2 11 x0) = (1 : Int32)) (
  d_X8_matched_144 (-2 : Int32) o8.2
  ) (
  d_X8_matched_144 (-1 : Int32) o8.2
  )))))))
  ))))))
def d_X8_matched_102 (t0 : Int32) (S : ZS) : Option (Int32 × ZS) :=
  some (t0, S)
def d_X8_matched_79 (self29 : Nat → Nat → Nat → Int32 → Int32 → Int32 → Int32 → Int32 → ZS → Option (Int32 × ZS)) (x0 : Nat) (x1 : Nat) (x2 : Nat) (x3 : Int32) (x4 : Int32) (x5 : Int32) (x6 : Int32) (x7 : Int32) (S : ZS) : Option (Int32 × ZS) :=
  m_bnd (x7 + (1 : Int32)) (fun v1 =>
  self29 x0 x1 x2 x3 x4 x5 x6 v1 S)
def d_X8_matched_67 (self29 : Nat → Nat → Nat → Int32 → Int32 → Int32 → Int32 → Int32 → ZS → Option (Int32 × ZS)) (x0 : Nat) (x1 : Nat) (x2 : Nat) (x3 : Int32) (x4 : Int32) (x6 : Int32) (x7 : Int32) (S : ZS) : Option (Int32 × ZS) :=
  m_chk (zK S x0 = 8) (
  m_cal (zP S 10 x0) (fun b1 =>
  m_chk (zK S b1 = 14) (
  m_chk (¬ (x7 < 0 ∨ zN S b1 ≤ (x7).toNatClampNeg)) (
  m_bnd (zA S b1 (x7).toNatClampNeg) (fun v2 =>
  m_bnd (x6 + (1 : Int32)) (fun v3 =>
  d_X8_matched_79 self29 x0 x1 x2 x3 x4 v2 v3 x7 S))))))
def d_X8_matched_29s (self29 : Nat → Nat → Nat → Int32 → Int32 → Int32 → Int32 → Int32 → ZS → Option (Int32 × ZS)) (x0 : Nat) (x1 : Nat) (x2 : Nat) (x3 : Int32) (x4 : Int32) (x5 : Int32) (x6 : Int32) (x7 : Int32) (S : ZS) : Option (Int32 × ZS) :=
  m_chk (zK S x0 = 8) (
  m_if ((zI S 11 x0) ≤ x7) (
  m_if (x6 ≤ 0) (
  d_X8_matched_103 x0 x1 x2 x3 x4 S
  ) (
  m_if (x6 = (1 : Int32)) (
  d_X8_matched_102 x5 S
  ) (
  d_X8_matched_102 (-1 : Int32) S
  )
  )
  ) (
  m_chk (zK S x0 = 8) (
  m_if ((zI S 9 x0) = 0) (
  d_X8_matched_67 self29 x0 x1 x2 x3 x4 x6 x7 S
  ) (
  m_chk (zK S x0 = 8) (
  m_chk (zK S x0 = 8) (
  m_cal (zP S 0 x0) (fun b1 =>
  m_chk (zK S x0 = 8) (
  m_cal (zP S 10 x0) (fun b2 =>
  m_chk (zK S b2 = 14) (
  m_chk (¬ (x7 < 0 ∨ zN S b2 ≤ (x7).toNatClampNeg)) (
  m_bnd (zA S b2 (x7).toNatClampNeg) (fun v3 =>
  m_chk (zK S b1 = 7) (
  m_cal (f_X7_checkSign b1 x1 v3 S) (fun o4 => m_chk (zt o4.2 = zt S ∧ zu o4.2 = zu S) (
  m_if ((zI S 9 x0) = o4.1) (
  d_X8_matched_67 self29 x0 x1 x2 x3 x4 x6 x7 o4.2
  ) (
  d_X8_matched_79 self29 x0 x1 x2 x3 x4 x5 x6 x7 o4.2
  ))))))))))))
  ))
  ))
def d_X8_matched_29  : Nat → Nat → Nat → Nat → Int32 → Int32 → Int32 → Int32 → Int32 → ZS → Option (Int32 × ZS)
  | 0 => fun _ _ _ _ _ _ _ _ _ => none
  | n + 1 => d_X8_matched_29s  (d_X8_matched_29  n)
def d_X8_matched_0 (x0 : Nat) (x1 : Nat) (x2 : Nat) (x3 : Int32) (x4 : Int32) (S : ZS) : Option (Int32 × ZS) :=
  m_chk (zK S x0 = 8) (
  m_cal2 (d_X8_copyWhole x0 x2 x3 x4 S) (fun r2 S3 =>
  m_chk (zK S3 x0 = 8) (
  m_cal (f_X8_parse x0 S3) (fun o6 => m_chk (zt o6.2 = zt S3 ∧ zu o6.2 = zu S3) (
  m_if (o6.1 = 0) (
  d_X8_matched_103 x0 x1 x2 x3 x4 o6.2
  ) (
  m_chk (zK o6.2 x0 = 8) (
  m_cal (f_X8_gather x0 x1 o6.2) (fun o7 => m_chk (zt o7.2 = zt o6.2 ∧ zu o7.2 = zu o6.2) (
  d_X8_matched_29 mFuel x0 x1 x2 x3 x4 (-1 : Int32) (0 : Int32) (0 : Int32) o7.2)))
  ))))))
def d_X8_matched (x0 : Nat) (x1 : Nat) (x2 : Nat) (x3 : Int32) (x4 : Int32) (S : ZS) : Option (Int32 × ZS) := d_X8_matched_0 x0 x1 x2 x3 x4 S
def d_X2_readMove_234 (t0 : Int32) (S : ZS) : Option (Int32 × ZS) :=
  m_chk (vp_nar .boolean t0 = t0) (
  some (t0, S))
def d_X2_readMove_233 (S : ZS) : Option (Int32 × ZS) :=
  d_X2_readMove_234 (0 : Int32) S
def d_X2_readMove_110 (x3 : Int32) (t0 : Int32) (t1 : Nat) (S : ZS) : Option (Int32 × ZS) :=
  m_chk (zK S t1 = 2) (
  m_cal (f_X2_refuse t1 t0 x3 S) (fun o1 => m_chk (zt o1.2 = zt S ∧ zu o1.2 = zu S) (
  m_chk (vp_nar .boolean o1.1 = o1.1) (
  some (o1.1, o1.2)))))
def d_X2_readMove_37 (x0 : Nat) (x1 : Int32) (x2 : Nat) (S : ZS) : Option (Int32 × ZS) :=
  m_chk (zK S x0 = 2) (
  m_cal (zP S 2 x0) (fun b1 =>
  m_chk (zK S x0 = 2) (
  m_chk (zK S b1 = 6) (
  m_cal (f_X6_at b1 (zI S 4 x0) S) (fun o2 => m_chk (zt o2.2 = zt S ∧ zu o2.2 = zu S) (
  m_cal (f_X11_isLetter o2.1 o2.2) (fun o3 => m_chk (zt o3.2 = zt o2.2 ∧ zu o3.2 = zu o2.2) (
  m_if (o3.1 = 0) (
  m_chk (zK o3.2 x0 = 2) (
  m_chk (zK o3.2 x0 = 2) (
  m_cal (f_X2_refuse x0 (1 : Int32) (zI o3.2 4 x0) o3.2) (fun o42 => m_chk (zt o42.2 = zt o3.2 ∧ zu o42.2 = zu o3.2) (
  m_chk (vp_nar .boolean o42.1 = o42.1) (
  some (o42.1, o42.2))))))
  ) (
  m_chk (zK o3.2 x0 = 2) (
  m_chk (zK o3.2 x0 = 2) (
  m_cal (f_X2_skipSigns x0 o3.2) (fun o4 => m_chk (zt o4.2 = zt o3.2 ∧ zu o4.2 = zu o3.2) (
  m_chk (zK o4.2 x0 = 2) (
  m_cal (zP o4.2 0 x0) (fun b5 =>
  m_chk (zK o4.2 x0 = 2) (
  m_cal (zP o4.2 2 x0) (fun b6 =>
  m_chk (zK o4.2 x0 = 2) (
  m_chk (zK o4.2 b5 = 8) (
  m_cal2 (d_X8_matched b5 x2 b6 (zI o3.2 4 x0) (zI o4.2 4 x0) o4.2) (fun r8 S9 =>
  m_if (0 ≤ r8) (
  m_chk (zK S9 x0 = 2) (
  m_cal (zP S9 3 x0) (fun b12 =>
  m_chk (zK S9 x0 = 2) (
  m_cal (zP S9 9 x0) (fun b13 =>
  m_chk (zK S9 b13 = 14) (
  m_chk (¬ (x1 < 0 ∨ zN S9 b13 ≤ (x1).toNatClampNeg)) (
  m_bnd (zA S9 b13 (x1).toNatClampNeg) (fun v14 =>
  m_chk (zK S9 b12 = 1) (
  m_cal (f_X1_childWith b12 v14 r8 S9) (fun o15 => m_chk (zt o15.2 = zt S9 ∧ zu o15.2 = zu S9) (
  m_if (o15.1 = (-1 : Int32)) (
  m_chk (zK o15.2 x0 = 2) (
  m_cal (zP o15.2 3 x0) (fun b16 =>
  m_chk (zK o15.2 x0 = 2) (
  m_cal (zP o15.2 9 x0) (fun b17 =>
  m_chk (zK o15.2 b17 = 14) (
  m_chk (¬ (x1 < 0 ∨ zN o15.2 b17 ≤ (x1).toNatClampNeg)) (
  m_bnd (zA o15.2 b17 (x1).toNatClampNeg) (fun v18 =>
  m_chk (zK o15.2 b16 = 1) (
  m_cal2 (d_X1_grow b16 v18 r8 o15.2) (fun r20 S21 =>
  m_if (r20 = (-1 : Int32)) (
  m_chk (zK S21 x0 = 2) (
  m_cal (f_X2_refuse x0 (8 : Int32) (zI o3.2 4 x0) S21) (fun o40 => m_chk (zt o40.2 = zt S21 ∧ zu o40.2 = zu S21) (
  m_chk (vp_nar .boolean o40.1 = o40.1) (
  some (o40.1, o40.2)))))
  ) (
  m_chk (zK S21 x0 = 2) (
  m_cal (zP S21 9 x0) (fun b24 =>
  m_chk (zK S21 b24 = 14) (
  m_chk (¬ (x1 < 0 ∨ zN S21 b24 ≤ (x1).toNatClampNeg)) (
  m_bnd (zsA S21 b24 (x1).toNatClampNeg r20) (fun S25 =>
  m_chk (zK S25 x0 = 2) (
  m_cal (zP S25 10 x0) (fun b26 =>
  m_chk (zK S25 b26 = 15) (
  m_chk (¬ (x1 < 0 ∨ zN S25 b26 ≤ (x1).toNatClampNeg)) (
  m_cal (zB S25 b26 (x1).toNatClampNeg) (fun b27 =>
  m_chk (zK S25 b27 = 0) (
  m_cal (f_X0_copyFrom b27 x2 S25) (fun o28 => m_chk (zt o28.2 = zt S25 ∧ zu o28.2 = zu S25) (
  m_chk (zK o28.2 x2 = 0) (
  m_cal (f_X0_play x2 r8 o28.2) (fun o29 => m_chk (zt o29.2 = zt o28.2 ∧ zu o29.2 = zu o28.2) (
  m_chk (zK o29.2 x0 = 2) (
  m_cal (zP o29.2 3 x0) (fun b30 =>
  m_chk (zK o29.2 b30 = 1) (
  m_cal (f_X1_at b30 r20 o29.2) (fun o31 => m_chk (zt o31.2 = zt o29.2 ∧ zu o31.2 = zu o29.2) (
  m_chk (zK o31.2 x0 = 2) (
  m_cal (f_X2_readMarks x0 o31.1 o31.2) (fun o32 => m_chk (zt o32.2 = zt o31.2 ∧ zu o32.2 = zu o31.2) (
  m_if (o32.1 = 0) (
  d_X2_readMove_233 o32.2
  ) (
  m_chk (zK o32.2 x0 = 2) (
  m_cal (zP o32.2 3 x0) (fun b33 =>
  m_chk (zK o32.2 b33 = 1) (
  m_cal (f_X1_at b33 r20 o32.2) (fun o34 => m_chk (zt o34.2 = zt o32.2 ∧ zu o34.2 = zu o32.2) (
  m_chk (zK o34.2 x0 = 2) (
  m_cal2 (d_X2_readRemarks x0 o34.1 o34.2) (fun r36 S37 =>
  m_if (r36 = 0) (
  d_X2_readMove_233 S37
  ) (
  d_X2_readMove_234 (1 : Int32) S37
  ))))))))
  )))))))))))))))))))))))))
  ))))))))))
  ) (
  m_chk (zK o15.2 x0 = 2) (
  m_cal (f_X2_refuse x0 (6 : Int32) (zI o3.2 4 x0) o15.2) (fun o41 => m_chk (zt o41.2 = zt o15.2 ∧ zu o41.2 = zu o15.2) (
  m_chk (vp_nar .boolean o41.1 = o41.1) (
  some (o41.1, o41.2)))))
  )))))))))))
  ) (
  m_if (r8 = (-2 : Int32)) (
  d_X2_readMove_110 (zI o3.2 4 x0) (5 : Int32) x0 S9
  ) (
  d_X2_readMove_110 (zI o3.2 4 x0) (4 : Int32) x0 S9
  )
  ))))))))))))
  )))))))))
def d_X2_readMove_0 (x0 : Nat) (x1 : Int32) (S : ZS) : Option (Int32 × ZS) :=
  m_chk (zK S x0 = 2) (
  m_cal (zP S 11 x0) (fun b1 =>
  m_chk (zK S b1 = 15) (
  m_chk (¬ (x1 < 0 ∨ zN S b1 ≤ (x1).toNatClampNeg)) (
  m_cal (zB S b1 (x1).toNatClampNeg) (fun b2 =>
  m_chk (zK S x0 = 2) (
  m_cal (zP S 2 x0) (fun b3 =>
  m_chk (zK S x0 = 2) (
  m_chk (zK S b3 = 6) (
  m_cal (f_X6_at b3 (zI S 4 x0) S) (fun o4 => m_chk (zt o4.2 = zt S ∧ zu o4.2 = zu S) (
  m_cal (f_X11_isDigit o4.1 o4.2) (fun o5 => m_chk (zt o5.2 = zt o4.2 ∧ zu o5.2 = zu o4.2) (
  m_if (o5.1 = 0) (
  d_X2_readMove_37 x0 x1 b2 o5.2
  ) (
  m_chk (zK o5.2 b2 = 0) (
  m_chk (zK o5.2 x0 = 2) (
  m_cal (f_X2_readNumber x0 (zI o5.2 6 b2) o5.2) (fun o6 => m_chk (zt o6.2 = zt o5.2 ∧ zu o6.2 = zu o5.2) (
  m_if (o6.1 = 0) (
  m_chk (vp_nar .boolean (0 : Int32) = (0 : Int32)) (
  some ((0 : Int32), o6.2))
  ) (
  d_X2_readMove_37 x0 x1 b2 o6.2
  )))))
  ))))))))))))))
def d_X2_readMove (x0 : Nat) (x1 : Int32) (S : ZS) : Option (Int32 × ZS) := d_X2_readMove_0 x0 x1 S
def d_X2_readMoves_197 (self34 : Nat → Int32 → Int32 → ZS → Option (Int32 × ZS)) (x0 : Nat) (x1 : Int32) (x2 : Int32) (S : ZS) : Option (Int32 × ZS) :=
  m_bnd (x2 + (1 : Int32)) (fun v1 =>
  self34 x0 x1 v1 S)
def d_X2_readMoves_187 (self34 : Nat → Int32 → Int32 → ZS → Option (Int32 × ZS)) (x0 : Nat) (x1 : Int32) (x2 : Int32) (S : ZS) : Option (Int32 × ZS) :=
  m_chk (zK S x0 = 2) (
  m_cal2 (d_X2_readMove x0 x1 S) (fun r2 S3 =>
  m_if (r2 = 0) (
  m_chk (vp_nar .boolean (0 : Int32) = (0 : Int32)) (
  some ((0 : Int32), S3))
  ) (
  d_X2_readMoves_197 self34 x0 x1 x2 S3
  )))
def d_X2_readMoves_128 (self34 : Nat → Int32 → Int32 → ZS → Option (Int32 × ZS)) (x0 : Nat) (x1 : Int32) (x2 : Int32) (x3 : Int32) (S : ZS) : Option (Int32 × ZS) :=
  m_if (x3 = 0) (
  d_X2_readMoves_187 self34 x0 x1 x2 S
  ) (
  m_if (x1 ≤ 0) (
  d_X2_readMoves_187 self34 x0 x1 x2 S
  ) (
  m_chk (zK S x0 = 2) (
  m_cal (zP S 2 x0) (fun b1 =>
  m_chk (zK S x0 = 2) (
  m_chk (zK S b1 = 6) (
  m_cal (f_X6_at b1 (zI S 4 x0) S) (fun o2 => m_chk (zt o2.2 = zt S ∧ zu o2.2 = zu S) (
  m_if (o2.1 = (41 : Int32)) (
  m_bnd (x1 + (-1 : Int32)) (fun v3 =>
  m_chk (zK o2.2 x0 = 2) (
  m_bnd ((zI o2.2 4 x0) + (1 : Int32)) (fun v4 =>
  m_chk (zK o2.2 x0 = 2) (
  m_bnd (zsI o2.2 4 x0 v4) (fun S5 =>
  m_chk (zK S5 x0 = 2) (
  m_cal (zP S5 3 x0) (fun b6 =>
  m_chk (zK S5 x0 = 2) (
  m_cal (zP S5 9 x0) (fun b7 =>
  m_chk (zK S5 b7 = 14) (
  m_chk (¬ (v3 < 0 ∨ zN S5 b7 ≤ (v3).toNatClampNeg)) (
  m_bnd (zA S5 b7 (v3).toNatClampNeg) (fun v8 =>
  m_chk (zK S5 b6 = 1) (
  m_cal (f_X1_at b6 v8 S5) (fun o9 => m_chk (zt o9.2 = zt S5 ∧ zu o9.2 = zu S5) (
  m_chk (zK o9.2 x0 = 2) (
  m_cal2 (d_X2_readRemarks x0 o9.1 o9.2) (fun r11 S12 =>
  m_if (r11 = 0) (
  m_chk (vp_nar .boolean (0 : Int32) = (0 : Int32)) (
  some ((0 : Int32), S12))
  ) (
  d_X2_readMoves_197 self34 x0 v3 x2 S12
  ))))))))))))))))))
  ) (
  d_X2_readMoves_187 self34 x0 x1 x2 o2.2
  )))))))
  )
  )
def d_X2_readMoves_80 (self34 : Nat → Int32 → Int32 → ZS → Option (Int32 × ZS)) (x0 : Nat) (x1 : Int32) (x2 : Int32) (x3 : Int32) (S : ZS) : Option (Int32 × ZS) :=
  m_if (x3 = 0) (
  d_X2_readMoves_128 self34 x0 x1 x2 x3 S
  ) (
  m_chk (zK S x0 = 2) (
  m_cal (zP S 2 x0) (fun b1 =>
  m_chk (zK S x0 = 2) (
  m_chk (zK S b1 = 6) (
  m_cal (f_X6_at b1 (zI S 4 x0) S) (fun o2 => m_chk (zt o2.2 = zt S ∧ zu o2.2 = zu S) (
  m_if (o2.1 = (40 : Int32)) (
  m_if (x1 < (6 : Int32)) (
  m_bnd (x1 + (1 : Int32)) (fun v3 =>
  m_chk (zK o2.2 x0 = 2) (
  m_cal (f_X2_openLine x0 v3 o2.2) (fun o4 => m_chk (zt o4.2 = zt o2.2 ∧ zu o4.2 = zu o2.2) (
  d_X2_readMoves_197 self34 x0 v3 x2 o4.2))))
  ) (
  m_chk (zK o2.2 x0 = 2) (
  m_chk (zK o2.2 x0 = 2) (
  m_cal (f_X2_refuse x0 (8 : Int32) (zI o2.2 4 x0) o2.2) (fun o5 => m_chk (zt o5.2 = zt o2.2 ∧ zu o5.2 = zu o2.2) (
  m_chk (vp_nar .boolean o5.1 = o5.1) (
  some (o5.1, o5.2))))))
  )
  ) (
  d_X2_readMoves_128 self34 x0 x1 x2 x3 o2.2
  )))))))
  )
def d_X2_readMoves_65 (self34 : Nat → Int32 → Int32 → ZS → Option (Int32 × ZS)) (x0 : Nat) (x1 : Int32) (x2 : Int32) (t0 : Int32) (S : ZS) : Option (Int32 × ZS) :=
  m_if (x1 = 0) (
  m_chk (zK S x0 = 2) (
  m_cal (f_X2_resultHere x0 S) (fun o1 => m_chk (zt o1.2 = zt S ∧ zu o1.2 = zu S) (
  m_if (o1.1 = (-1 : Int32)) (
  d_X2_readMoves_80 self34 x0 x1 x2 t0 o1.2
  ) (
  m_chk (vp_nar .boolean (1 : Int32) = (1 : Int32)) (
  some ((1 : Int32), o1.2))
  ))))
  ) (
  d_X2_readMoves_80 self34 x0 x1 x2 t0 S
  )
def d_X2_readMoves_34s (self34 : Nat → Int32 → Int32 → ZS → Option (Int32 × ZS)) (x0 : Nat) (x1 : Int32) (x2 : Int32) (S : ZS) : Option (Int32 × ZS) :=
  m_if ((2000 : Int32) < x2) (
  m_chk (zK S x0 = 2) (
  m_chk (zK S x0 = 2) (
  m_cal (f_X2_refuse x0 (1 : Int32) (zI S 4 x0) S) (fun o1 => m_chk (zt o1.2 = zt S ∧ zu o1.2 = zu S) (
  m_chk (vp_nar .boolean o1.1 = o1.1) (
  some (o1.1, o1.2))))))
  ) (
  m_chk (zK S x0 = 2) (
  m_cal (f_X2_skipBlanks x0 S) (fun o2 => m_chk (zt o2.2 = zt S ∧ zu o2.2 = zu S) (
  m_chk (zK o2.2 x0 = 2) (
  m_cal (zP o2.2 9 x0) (fun b3 =>
  m_chk (zK o2.2 b3 = 14) (
  m_chk (¬ (x1 < 0 ∨ zN o2.2 b3 ≤ (x1).toNatClampNeg)) (
  m_bnd (zA o2.2 b3 (x1).toNatClampNeg) (fun v4 =>
  m_chk (zK o2.2 x0 = 2) (
  m_cal (zP o2.2 8 x0) (fun b5 =>
  m_chk (zK o2.2 b5 = 14) (
  m_chk (¬ (x1 < 0 ∨ zN o2.2 b5 ≤ (x1).toNatClampNeg)) (
  m_bnd (zA o2.2 b5 (x1).toNatClampNeg) (fun v6 =>
  m_if (v4 = v6) (
  d_X2_readMoves_65 self34 x0 x1 x2 (0 : Int32) o2.2
  ) (
  d_X2_readMoves_65 self34 x0 x1 x2 (1 : Int32) o2.2
  ))))))))))))))
  )
def d_X2_readMoves_34  : Nat → Nat → Int32 → Int32 → ZS → Option (Int32 × ZS)
  | 0 => fun _ _ _ _ => none
  | n + 1 => d_X2_readMoves_34s  (d_X2_readMoves_34  n)
def d_X2_readMoves_0 (x0 : Nat) (S : ZS) : Option (Int32 × ZS) :=
  m_chk (zK S x0 = 2) (
  m_cal (zP S 8 x0) (fun b1 =>
  m_chk (zK S b1 = 14) (
  m_chk (¬ ((0 : Int32) < 0 ∨ zN S b1 ≤ ((0 : Int32)).toNatClampNeg)) (
  m_bnd (zsA S b1 ((0 : Int32)).toNatClampNeg (0 : Int32)) (fun S2 =>
  m_chk (zK S2 x0 = 2) (
  m_cal (zP S2 9 x0) (fun b3 =>
  m_chk (zK S2 b3 = 14) (
  m_chk (¬ ((0 : Int32) < 0 ∨ zN S2 b3 ≤ ((0 : Int32)).toNatClampNeg)) (
  m_bnd (zsA S2 b3 ((0 : Int32)).toNatClampNeg (0 : Int32)) (fun S4 =>
  m_chk (zK S4 x0 = 2) (
  m_cal (zP S4 11 x0) (fun b5 =>
  m_chk (zK S4 b5 = 15) (
  m_chk (¬ ((0 : Int32) < 0 ∨ zN S4 b5 ≤ ((0 : Int32)).toNatClampNeg)) (
  m_cal (zB S4 b5 ((0 : Int32)).toNatClampNeg) (fun b6 =>
  m_chk (zK S4 x0 = 2) (
  m_cal (zP S4 3 x0) (fun b7 =>
  m_chk (zK S4 b7 = 1) (
  m_cal (zP S4 0 b7) (fun b8 =>
  m_chk (zK S4 b6 = 0) (
  m_cal (f_X0_copyFrom b6 b8 S4) (fun o9 => m_chk (zt o9.2 = zt S4 ∧ zu o9.2 = zu S4) (
  d_X2_readMoves_34 mFuel x0 (0 : Int32) (0 : Int32) o9.2))))))))))))))))))))))
def d_X2_readMoves (x0 : Nat) (S : ZS) : Option (Int32 × ZS) := d_X2_readMoves_0 x0 S
def d_X2_readEnd_86 (t0 : Int32) (S : ZS) : Option (Int32 × ZS) :=
  m_chk (vp_nar .boolean t0 = t0) (
  some (t0, S))
def d_X2_readEnd_81 (S : ZS) : Option (Int32 × ZS) :=
  d_X2_readEnd_86 (1 : Int32) S
def d_X2_readEnd_0 (x0 : Nat) (S : ZS) : Option (Int32 × ZS) :=
  m_chk (zK S x0 = 2) (
  m_cal (f_X2_resultHere x0 S) (fun o1 => m_chk (zt o1.2 = zt S ∧ zu o1.2 = zu S) (
  m_chk (zK o1.2 x0 = 2) (
  m_cal (zP o1.2 3 x0) (fun b2 =>
  m_chk (zK o1.2 b2 = 1) (
  m_cal2 (d_X1_agreesWith b2 o1.1 o1.2) (fun r4 S5 =>
  m_if (r4 = 0) (
  m_chk (zK S5 x0 = 2) (
  m_chk (zK S5 x0 = 2) (
  m_cal (f_X2_refuse x0 (9 : Int32) (zI S5 4 x0) S5) (fun o18 => m_chk (zt o18.2 = zt S5 ∧ zu o18.2 = zu S5) (
  m_chk (vp_nar .boolean o18.1 = o18.1) (
  some (o18.1, o18.2))))))
  ) (
  m_chk (zK S5 x0 = 2) (
  m_cal (zP S5 3 x0) (fun b8 =>
  m_chk (zK S5 b8 = 1) (
  m_bnd (zsI S5 6 b8 o1.1) (fun S9 =>
  m_chk (zK S9 x0 = 2) (
  m_cal (f_X11_resultSign o1.1 S9) (fun o10 => m_chk (zt o10.2 = zt S9 ∧ zu o10.2 = zu S9) (
  m_chk (o10.1 < zSn) (
  m_cal (f_J0_length_8abf5 o10.1 o10.2) (fun o11 => m_chk (zt o11.2 = zt o10.2 ∧ zu o11.2 = zu o10.2) (
  m_bnd ((zI S9 4 x0) + o11.1) (fun v12 =>
  m_chk (zK o11.2 x0 = 2) (
  m_bnd (zsI o11.2 4 x0 v12) (fun S13 =>
  m_chk (zK S13 x0 = 2) (
  m_cal (f_X2_skipBlanks x0 S13) (fun o14 => m_chk (zt o14.2 = zt S13 ∧ zu o14.2 = zu S13) (
  m_chk (zK o14.2 x0 = 2) (
  m_chk (zK o14.2 x0 = 2) (
  m_cal (zP o14.2 2 x0) (fun b15 =>
  m_chk (zK o14.2 b15 = 6) (
  m_cal (f_X6_size b15 o14.2) (fun o16 => m_chk (zt o16.2 = zt o14.2 ∧ zu o16.2 = zu o14.2) (
  m_if ((zI o14.2 4 x0) = o16.1) (
  d_X2_readEnd_81 o16.2
  ) (
  m_chk (zK o16.2 x0 = 2) (
  m_chk (zK o16.2 x0 = 2) (
  m_cal (f_X2_refuse x0 (1 : Int32) (zI o16.2 4 x0) o16.2) (fun o17 => m_chk (zt o17.2 = zt o16.2 ∧ zu o17.2 = zu o16.2) (
  m_if (o17.1 = 0) (
  d_X2_readEnd_86 (0 : Int32) o17.2
  ) (
  d_X2_readEnd_81 o17.2
  )))))
  )))))))))))))))))))))))
  ))))))))
def d_X2_readEnd (x0 : Nat) (S : ZS) : Option (Int32 × ZS) := d_X2_readEnd_0 x0 S
def d_X9_init_0 (x0 : Nat) (S : ZS) : Option (Int32 × ZS) :=
  m_bnd (zt S) (fun q1 =>
  m_bnd (zsNewO S q1 7 2) (fun S2 =>
  m_cal2 (d_X7_init q1 S2) (fun r6 S7 =>
  m_chk (zK S7 x0 = 9) (
  m_bnd (zsP S7 0 x0 (some q1)) (fun S10 =>
  some (0, S10))))))
def d_X9_init (x0 : Nat) (S : ZS) : Option (Int32 × ZS) := d_X9_init_0 x0 S
def d_X3_init_26s (self26 : Nat → Int32 → ZS → Option (Int32 × ZS)) (x0 : Nat) (x1 : Int32) (S : ZS) : Option (Int32 × ZS) :=
  m_if ((6 : Int32) < x1) (
  some (0, S)
  ) (
  m_chk (zK S x0 = 3) (
  m_cal (zP S 1 x0) (fun b1 =>
  m_bnd (zt S) (fun q2 =>
  m_bnd (zsNewO S q2 0 7) (fun S3 =>
  m_cal2 (d_X0_init q2 S3) (fun r7 S8 =>
  m_chk (zK S8 b1 = 15) (
  m_chk (zK S8 q2 = 0) (
  m_chk (¬ (x1 < 0 ∨ zN S8 b1 ≤ (x1).toNatClampNeg)) (
  m_bnd (zsB S8 b1 (x1).toNatClampNeg (some q2)) (fun S11 =>
  m_bnd (x1 + (1 : Int32)) (fun v12 =>
  self26 x0 v12 S11))))))))))
  )
def d_X3_init_26  : Nat → Nat → Int32 → ZS → Option (Int32 × ZS)
  | 0 => fun _ _ _ => none
  | n + 1 => d_X3_init_26s  (d_X3_init_26  n)
def d_X3_init_0 (x0 : Nat) (S : ZS) : Option (Int32 × ZS) :=
  m_bnd (zt S) (fun q1 =>
  m_bnd (zsNewO S q1 9 1) (fun S2 =>
  m_cal2 (d_X9_init q1 S2) (fun r6 S7 =>
  m_chk (zK S7 x0 = 3) (
  m_bnd (zsP S7 0 x0 (some q1)) (fun S10 =>
  m_chk (¬ (7 : Int32) < 0 ∧ ((7 : Int32)).toNatClampNeg * 4 ≤ 536870912) (
  m_bnd (zt S10) (fun q11 =>
  m_bnd (zsNewA S10 q11 15 ((7 : Int32)).toNatClampNeg) (fun S12 =>
  m_chk (zK S12 x0 = 3) (
  m_bnd (zsP S12 1 x0 (some q11)) (fun S15 =>
  d_X3_init_26 mFuel x0 (0 : Int32) S15))))))))))
def d_X3_init (x0 : Nat) (S : ZS) : Option (Int32 × ZS) := d_X3_init_0 x0 S
def d_X6_putText_2s (self2 : Nat → Nat → Int32 → ZS → Option (Int32 × ZS)) (x0 : Nat) (x1 : Nat) (x2 : Int32) (S : ZS) : Option (Int32 × ZS) :=
  m_chk (x1 < zSn) (
  m_cal (f_J0_length_8abf5 x1 S) (fun o1 => m_chk (zt o1.2 = zt S ∧ zu o1.2 = zu S) (
  m_if (o1.1 ≤ x2) (
  some (0, o1.2)
  ) (
  m_chk (x1 < zSn) (
  m_cal (f_J0_charAt_5068e x1 x2 o1.2) (fun o2 => m_chk (zt o2.2 = zt o1.2 ∧ zu o2.2 = zu o1.2) (
  m_chk (zK o2.2 x0 = 6) (
  m_cal2 (d_X6_put x0 o2.1 o2.2) (fun r4 S5 =>
  m_bnd (x2 + (1 : Int32)) (fun v8 =>
  self2 x0 x1 v8 S5))))))
  ))))
def d_X6_putText_2  : Nat → Nat → Nat → Int32 → ZS → Option (Int32 × ZS)
  | 0 => fun _ _ _ _ => none
  | n + 1 => d_X6_putText_2s  (d_X6_putText_2  n)
def d_X6_putText_0 (x0 : Nat) (x1 : Nat) (S : ZS) : Option (Int32 × ZS) :=
  d_X6_putText_2 mFuel x0 x1 (0 : Int32) S
def d_X6_putText (x0 : Nat) (x1 : Nat) (S : ZS) : Option (Int32 × ZS) := d_X6_putText_0 x0 x1 S
def d_X3_putQuoted_34 (self2 : Nat → Nat → Int32 → ZS → Option (Int32 × ZS)) (x0 : Nat) (x1 : Nat) (x2 : Int32) (x3 : Int32) (S : ZS) : Option (Int32 × ZS) :=
  m_chk (zK S x1 = 6) (
  m_cal2 (d_X6_put x1 x3 S) (fun r2 S3 =>
  m_bnd (x2 + (1 : Int32)) (fun v6 =>
  self2 x0 x1 v6 S3)))
def d_X3_putQuoted_28 (self2 : Nat → Nat → Int32 → ZS → Option (Int32 × ZS)) (x0 : Nat) (x1 : Nat) (x2 : Int32) (x3 : Int32) (S : ZS) : Option (Int32 × ZS) :=
  m_chk (zK S x1 = 6) (
  m_cal2 (d_X6_put x1 (92 : Int32) S) (fun r2 S3 =>
  d_X3_putQuoted_34 self2 x0 x1 x2 x3 S3))
def d_X3_putQuoted_2s (self2 : Nat → Nat → Int32 → ZS → Option (Int32 × ZS)) (x0 : Nat) (x1 : Nat) (x2 : Int32) (S : ZS) : Option (Int32 × ZS) :=
  m_chk (zK S x0 = 6) (
  m_cal (f_X6_size x0 S) (fun o1 => m_chk (zt o1.2 = zt S ∧ zu o1.2 = zu S) (
  m_if (o1.1 ≤ x2) (
  some (0, o1.2)
  ) (
  m_chk (zK o1.2 x0 = 6) (
  m_cal (f_X6_at x0 x2 o1.2) (fun o2 => m_chk (zt o2.2 = zt o1.2 ∧ zu o2.2 = zu o1.2) (
  m_if (o2.1 = (34 : Int32)) (
  d_X3_putQuoted_28 self2 x0 x1 x2 o2.1 o2.2
  ) (
  m_if (o2.1 = (92 : Int32)) (
  d_X3_putQuoted_28 self2 x0 x1 x2 o2.1 o2.2
  ) (
  d_X3_putQuoted_34 self2 x0 x1 x2 o2.1 o2.2
  )
  ))))
  ))))
def d_X3_putQuoted_2  : Nat → Nat → Nat → Int32 → ZS → Option (Int32 × ZS)
  | 0 => fun _ _ _ _ => none
  | n + 1 => d_X3_putQuoted_2s  (d_X3_putQuoted_2  n)
def d_X3_putQuoted_0 (x0 : Nat) (x1 : Nat) (S : ZS) : Option (Int32 × ZS) :=
  d_X3_putQuoted_2 mFuel x0 x1 (0 : Int32) S
def d_X3_putQuoted (x0 : Nat) (x1 : Nat) (S : ZS) : Option (Int32 × ZS) := d_X3_putQuoted_0 x0 x1 S
def d_X3_putGap_33 (S : ZS) : Option (Int32 × ZS) :=
  some (0, S)
def d_X3_putGap_0 (x0 : Nat) (S : ZS) : Option (Int32 × ZS) :=
  m_chk (zK S x0 = 6) (
  m_cal (f_X6_size x0 S) (fun o1 => m_chk (zt o1.2 = zt S ∧ zu o1.2 = zu S) (
  m_bnd (o1.1 - (1 : Int32)) (fun v2 =>
  m_chk (zK o1.2 x0 = 6) (
  m_cal (f_X6_at x0 v2 o1.2) (fun o3 => m_chk (zt o3.2 = zt o1.2 ∧ zu o3.2 = zu o1.2) (
  m_if (o3.1 = 0) (
  d_X3_putGap_33 o3.2
  ) (
  m_if (o3.1 = (10 : Int32)) (
  d_X3_putGap_33 o3.2
  ) (
  m_if (o3.1 = (40 : Int32)) (
  d_X3_putGap_33 o3.2
  ) (
  m_chk (zK o3.2 x0 = 6) (
  m_cal2 (d_X6_put x0 (32 : Int32) o3.2) (fun r5 S6 =>
  d_X3_putGap_33 S6))
  )
  )
  ))))))))
def d_X3_putGap (x0 : Nat) (S : ZS) : Option (Int32 × ZS) := d_X3_putGap_0 x0 S
def d_X3_putRemark_0 (x0 : Nat) (x1 : Nat) (S : ZS) : Option (Int32 × ZS) :=
  m_chk (zK S x0 = 4) (
  m_cal (zP S 6 x0) (fun b1 =>
  m_chk (zK S b1 = 6) (
  m_cal (f_X6_size b1 S) (fun o2 => m_chk (zt o2.2 = zt S ∧ zu o2.2 = zu S) (
  m_if (o2.1 = 0) (
  some (0, o2.2)
  ) (
  m_cal2 (d_X3_putGap x1 o2.2) (fun r4 S5 =>
  m_chk (zK S5 x1 = 6) (
  m_cal2 (d_X6_put x1 (123 : Int32) S5) (fun r9 S10 =>
  m_chk (zK S10 x0 = 4) (
  m_cal (zP S10 6 x0) (fun b13 =>
  m_chk (zK S10 x1 = 6) (
  m_cal2 (d_X6_putAll x1 b13 S10) (fun r15 S16 =>
  m_chk (zK S16 x1 = 6) (
  m_cal2 (d_X6_put x1 (125 : Int32) S16) (fun r20 S21 =>
  some (0, S21))))))))))
  ))))))
def d_X3_putRemark (x0 : Nat) (x1 : Nat) (S : ZS) : Option (Int32 × ZS) := d_X3_putRemark_0 x0 x1 S
def d_X3_putHead_72 (x0 : Nat) (x1 : Nat) (x2 : Nat) (S : ZS) : Option (Int32 × ZS) :=
  m_chk (zK S x1 = 1) (
  m_cal (f_X1_at x1 (0 : Int32) S) (fun o1 => m_chk (zt o1.2 = zt S ∧ zu o1.2 = zu S) (
  m_cal2 (d_X3_putRemark o1.1 x2 o1.2) (fun r3 S4 =>
  m_chk (zK S4 x0 = 3) (
  m_cal (zP S4 1 x0) (fun b7 =>
  m_chk (zK S4 b7 = 15) (
  m_chk (¬ ((0 : Int32) < 0 ∨ zN S4 b7 ≤ ((0 : Int32)).toNatClampNeg)) (
  m_cal (zB S4 b7 ((0 : Int32)).toNatClampNeg) (fun b8 =>
  m_chk (zK S4 x1 = 1) (
  m_cal (zP S4 0 x1) (fun b9 =>
  m_chk (zK S4 b8 = 0) (
  m_cal (f_X0_copyFrom b8 b9 S4) (fun o10 => m_chk (zt o10.2 = zt S4 ∧ zu o10.2 = zu S4) (
  some (0, o10.2)))))))))))))))
def d_X3_putHead_2s (self2 : Nat → Nat → Nat → Int32 → ZS → Option (Int32 × ZS)) (x0 : Nat) (x1 : Nat) (x2 : Nat) (x3 : Int32) (S : ZS) : Option (Int32 × ZS) :=
  m_chk (zK S x1 = 1) (
  m_if ((zI S 5 x1) ≤ x3) (
  m_chk (zK S x1 = 1) (
  m_if ((zI S 5 x1) ≤ 0) (
  d_X3_putHead_72 x0 x1 x2 S
  ) (
  m_chk (zK S x2 = 6) (
  m_cal2 (d_X6_put x2 (10 : Int32) S) (fun r2 S3 =>
  d_X3_putHead_72 x0 x1 x2 S3))
  ))
  ) (
  m_chk (zK S x1 = 1) (
  m_cal2 (d_X1_tagAt x1 x3 S) (fun r7 S8 =>
  m_chk (zK S8 x2 = 6) (
  m_cal2 (d_X6_put x2 (91 : Int32) S8) (fun r12 S13 =>
  m_chk (zK S13 r7 = 10) (
  m_cal (zP S13 0 r7) (fun b16 =>
  m_chk (zK S13 x2 = 6) (
  m_cal2 (d_X6_putAll x2 b16 S13) (fun r18 S19 =>
  m_chk (zK S19 x2 = 6) (
  m_cal2 (d_X6_putText x2 11 S19) (fun r23 S24 =>
  m_chk (zK S24 r7 = 10) (
  m_cal (zP S24 1 r7) (fun b27 =>
  m_cal2 (d_X3_putQuoted b27 x2 S24) (fun r29 S30 =>
  m_chk (zK S30 x2 = 6) (
  m_cal2 (d_X6_putText x2 12 S30) (fun r34 S35 =>
  m_bnd (x3 + (1 : Int32)) (fun v38 =>
  self2 x0 x1 x2 v38 S35))))))))))))))))
  ))
def d_X3_putHead_2  : Nat → Nat → Nat → Nat → Int32 → ZS → Option (Int32 × ZS)
  | 0 => fun _ _ _ _ _ => none
  | n + 1 => d_X3_putHead_2s  (d_X3_putHead_2  n)
def d_X3_putHead_0 (x0 : Nat) (x1 : Nat) (x2 : Nat) (S : ZS) : Option (Int32 × ZS) :=
  d_X3_putHead_2 mFuel x0 x1 x2 (0 : Int32) S
def d_X3_putHead (x0 : Nat) (x1 : Nat) (x2 : Nat) (S : ZS) : Option (Int32 × ZS) := d_X3_putHead_0 x0 x1 x2 S
def d_X3_putEnd_0 (x1 : Nat) (x2 : Nat) (S : ZS) : Option (Int32 × ZS) :=
  m_cal2 (d_X3_putGap x2 S) (fun r2 S3 =>
  m_chk (zK S3 x1 = 1) (
  m_cal (f_X11_resultSign (zI S3 6 x1) S3) (fun o6 => m_chk (zt o6.2 = zt S3 ∧ zu o6.2 = zu S3) (
  m_chk (zK o6.2 x2 = 6) (
  m_cal2 (d_X6_putText x2 o6.1 o6.2) (fun r8 S9 =>
  some (0, S9)))))))
def d_X3_putEnd (x0 : Nat) (x1 : Nat) (x2 : Nat) (S : ZS) : Option (Int32 × ZS) := d_X3_putEnd_0 x1 x2 S
def d_X6_putNumber_29s (self29 : Nat → Int32 → Int32 → ZS → Option (Int32 × ZS)) (x0 : Nat) (x1 : Int32) (x2 : Int32) (S : ZS) : Option (Int32 × ZS) :=
  m_if (x2 ≤ 0) (
  some (0, S)
  ) (
  m_chk (¬ x2 = 0) (
  m_bnd (x1 / x2) (fun v1 =>
  m_bnd (v1 - v1 / (10 : Int32) * (10 : Int32)) (fun v2 =>
  m_bnd ((48 : Int32) + v2) (fun v3 =>
  m_bnd ((v3.toUInt32 % 65536).toInt32) (fun v4 =>
  m_chk (zK S x0 = 6) (
  m_cal2 (d_X6_put x0 v4 S) (fun r6 S7 =>
  m_bnd (x2 / (10 : Int32)) (fun v10 =>
  self29 x0 x1 v10 S7))))))))
  )
def d_X6_putNumber_29  : Nat → Nat → Int32 → Int32 → ZS → Option (Int32 × ZS)
  | 0 => fun _ _ _ _ => none
  | n + 1 => d_X6_putNumber_29s  (d_X6_putNumber_29  n)
def d_X6_putNumber_4s (self4 : Nat → Int32 → Int32 → Int32 → ZS → Option (Int32 × ZS)) (x0 : Nat) (x1 : Int32) (x2 : Int32) (x3 : Int32) (S : ZS) : Option (Int32 × ZS) :=
  m_if ((9 : Int32) ≤ x3) (
  d_X6_putNumber_29 mFuel x0 x1 x2 S
  ) (
  m_chk (¬ x2 = 0) (
  m_bnd (x1 / x2) (fun v1 =>
  m_if (v1 < (10 : Int32)) (
  d_X6_putNumber_29 mFuel x0 x1 x2 S
  ) (
  m_bnd (x2 * (10 : Int32)) (fun v2 =>
  m_bnd (x3 + (1 : Int32)) (fun v3 =>
  self4 x0 x1 v2 v3 S))
  )))
  )
def d_X6_putNumber_4  : Nat → Nat → Int32 → Int32 → Int32 → ZS → Option (Int32 × ZS)
  | 0 => fun _ _ _ _ _ => none
  | n + 1 => d_X6_putNumber_4s  (d_X6_putNumber_4  n)
def d_X6_putNumber_0 (x0 : Nat) (x1 : Int32) (S : ZS) : Option (Int32 × ZS) :=
  d_X6_putNumber_4 mFuel x0 x1 (1 : Int32) (0 : Int32) S
def d_X6_putNumber (x0 : Nat) (x1 : Int32) (S : ZS) : Option (Int32 × ZS) := d_X6_putNumber_0 x0 x1 S
def d_X9_putApart_162 (S : ZS) : Option (Int32 × ZS) :=
  some (0, S)
def d_X9_putApart_148 (x2 : Int32) (x4 : Nat) (x6 : Int32) (S : ZS) : Option (Int32 × ZS) :=
  m_if (x6 = 0) (
  d_X9_putApart_162 S
  ) (
  m_cal (f_X11_rankDigit x2 S) (fun o1 => m_chk (zt o1.2 = zt S ∧ zu o1.2 = zu S) (
  m_chk (zK o1.2 x4 = 6) (
  m_cal2 (d_X6_put x4 o1.1 o1.2) (fun r3 S4 =>
  d_X9_putApart_162 S4))))
  )
def d_X9_putApart_139 (x2 : Int32) (x4 : Nat) (x6 : Int32) (S : ZS) : Option (Int32 × ZS) :=
  m_cal (f_X11_fileLetter x2 S) (fun o1 => m_chk (zt o1.2 = zt S ∧ zu o1.2 = zu S) (
  m_chk (zK o1.2 x4 = 6) (
  m_cal2 (d_X6_put x4 o1.1 o1.2) (fun r3 S4 =>
  d_X9_putApart_148 x2 x4 x6 S4))))
def d_X9_putApart_118 (self12 : Nat → Nat → Int32 → Int32 → Nat → Int32 → Int32 → Int32 → Int32 → ZS → Option (Int32 × ZS)) (x0 : Nat) (x1 : Nat) (x2 : Int32) (x3 : Int32) (x4 : Nat) (x5 : Int32) (x6 : Int32) (x7 : Int32) (x8 : Int32) (S : ZS) : Option (Int32 × ZS) :=
  m_bnd (x8 + (1 : Int32)) (fun v1 =>
  self12 x0 x1 x2 x3 x4 x5 x6 x7 v1 S)
def d_X9_putApart_116 (self12 : Nat → Nat → Int32 → Int32 → Nat → Int32 → Int32 → Int32 → Int32 → ZS → Option (Int32 × ZS)) (x0 : Nat) (x1 : Nat) (x2 : Int32) (x3 : Int32) (x4 : Nat) (x5 : Int32) (x6 : Int32) (x8 : Int32) (t0 : Int32) (S : ZS) : Option (Int32 × ZS) :=
  d_X9_putApart_118 self12 x0 x1 x2 x3 x4 x5 x6 t0 x8 S
def d_X9_putApart_111 (self12 : Nat → Nat → Int32 → Int32 → Nat → Int32 → Int32 → Int32 → Int32 → ZS → Option (Int32 × ZS)) (x0 : Nat) (x1 : Nat) (x2 : Int32) (x3 : Int32) (x4 : Nat) (x5 : Int32) (x6 : Int32) (x8 : Int32) (S : ZS) : Option (Int32 × ZS) :=
  d_X9_putApart_116 self12 x0 x1 x2 x3 x4 x5 x6 x8 (1 : Int32) S
def d_X9_putApart_94 (self12 : Nat → Nat → Int32 → Int32 → Nat → Int32 → Int32 → Int32 → Int32 → ZS → Option (Int32 × ZS)) (x0 : Nat) (x1 : Nat) (x2 : Int32) (x3 : Int32) (x4 : Nat) (x5 : Int32) (x7 : Int32) (x8 : Int32) (t0 : Int32) (S : ZS) : Option (Int32 × ZS) :=
  m_if (x7 = 0) (
  m_bnd (x8 >>> ((3 : Int32) &&& 31)) (fun v1 =>
  m_bnd (x2 >>> ((3 : Int32) &&& 31)) (fun v2 =>
  m_if (v1 = v2) (
  d_X9_putApart_111 self12 x0 x1 x2 x3 x4 x5 t0 x8 S
  ) (
  d_X9_putApart_116 self12 x0 x1 x2 x3 x4 x5 t0 x8 (0 : Int32) S
  )))
  ) (
  d_X9_putApart_111 self12 x0 x1 x2 x3 x4 x5 t0 x8 S
  )
def d_X9_putApart_89 (self12 : Nat → Nat → Int32 → Int32 → Nat → Int32 → Int32 → Int32 → Int32 → ZS → Option (Int32 × ZS)) (x0 : Nat) (x1 : Nat) (x2 : Int32) (x3 : Int32) (x4 : Nat) (x5 : Int32) (x7 : Int32) (x8 : Int32) (S : ZS) : Option (Int32 × ZS) :=
  d_X9_putApart_94 self12 x0 x1 x2 x3 x4 x5 x7 x8 (1 : Int32) S
def d_X9_putApart_12s (self12 : Nat → Nat → Int32 → Int32 → Nat → Int32 → Int32 → Int32 → Int32 → ZS → Option (Int32 × ZS)) (x0 : Nat) (x1 : Nat) (x2 : Int32) (x3 : Int32) (x4 : Nat) (x5 : Int32) (x6 : Int32) (x7 : Int32) (x8 : Int32) (S : ZS) : Option (Int32 × ZS) :=
  m_if ((64 : Int32) ≤ x8) (
  m_if (x5 = 0) (
  d_X9_putApart_148 x2 x4 x6 S
  ) (
  m_if (x6 = 0) (
  d_X9_putApart_139 x2 x4 x6 S
  ) (
  m_if (x7 = 0) (
  d_X9_putApart_148 x2 x4 x6 S
  ) (
  d_X9_putApart_139 x2 x4 x6 S
  )
  )
  )
  ) (
  m_if (x8 = x2) (
  d_X9_putApart_118 self12 x0 x1 x2 x3 x4 x5 x6 x7 x8 S
  ) (
  m_chk (zK S x1 = 0) (
  m_cal (zP S 0 x1) (fun b1 =>
  m_chk (zK S b1 = 14) (
  m_chk (¬ (x8 < 0 ∨ zN S b1 ≤ (x8).toNatClampNeg)) (
  m_bnd (zA S b1 (x8).toNatClampNeg) (fun v2 =>
  m_chk (zK S x1 = 0) (
  m_cal (zP S 0 x1) (fun b3 =>
  m_chk (zK S b3 = 14) (
  m_chk (¬ (x2 < 0 ∨ zN S b3 ≤ (x2).toNatClampNeg)) (
  m_bnd (zA S b3 (x2).toNatClampNeg) (fun v4 =>
  m_if (v2 = v4) (
  m_chk (zK S x1 = 0) (
  m_cal (f_X0_reaches x1 x8 x3 S) (fun o5 => m_chk (zt o5.2 = zt S ∧ zu o5.2 = zu S) (
  m_if (o5.1 = 0) (
  d_X9_putApart_118 self12 x0 x1 x2 x3 x4 x5 x6 x7 x8 o5.2
  ) (
  m_chk (zK o5.2 x0 = 9) (
  m_cal (zP o5.2 0 x0) (fun b6 =>
  m_bnd ((64 : Int32) * x3) (fun v7 =>
  m_bnd (x8 + v7) (fun v8 =>
  m_chk (zK o5.2 b6 = 7) (
  m_cal (f_X7_isSafe b6 x1 v8 o5.2) (fun o9 => m_chk (zt o9.2 = zt o5.2 ∧ zu o9.2 = zu o5.2) (
  m_if (o9.1 = 0) (
  d_X9_putApart_118 self12 x0 x1 x2 x3 x4 x5 x6 x7 x8 o9.2
  ) (
  m_if (x6 = 0) (
  m_bnd (x8 &&& (7 : Int32)) (fun v10 =>
  m_bnd (x2 &&& (7 : Int32)) (fun v11 =>
  m_if (v10 = v11) (
  d_X9_putApart_89 self12 x0 x1 x2 x3 x4 (1 : Int32) x7 x8 o9.2
  ) (
  d_X9_putApart_94 self12 x0 x1 x2 x3 x4 (1 : Int32) x7 x8 (0 : Int32) o9.2
  )))
  ) (
  d_X9_putApart_89 self12 x0 x1 x2 x3 x4 (1 : Int32) x7 x8 o9.2
  )
  ))))))))
  ))))
  ) (
  d_X9_putApart_118 self12 x0 x1 x2 x3 x4 x5 x6 x7 x8 S
  )))))))))))
  )
  )
def d_X9_putApart_12  : Nat → Nat → Nat → Int32 → Int32 → Nat → Int32 → Int32 → Int32 → Int32 → ZS → Option (Int32 × ZS)
  | 0 => fun _ _ _ _ _ _ _ _ _ _ => none
  | n + 1 => d_X9_putApart_12s  (d_X9_putApart_12  n)
def d_X9_putApart_0 (x0 : Nat) (x1 : Nat) (x2 : Int32) (x3 : Int32) (x4 : Nat) (S : ZS) : Option (Int32 × ZS) :=
  d_X9_putApart_12 mFuel x0 x1 x2 x3 x4 (0 : Int32) (0 : Int32) (0 : Int32) (0 : Int32) S
def d_X9_putApart (x0 : Nat) (x1 : Nat) (x2 : Int32) (x3 : Int32) (x4 : Nat) (S : ZS) : Option (Int32 × ZS) := d_X9_putApart_0 x0 x1 x2 x3 x4 S
def d_X9_putSigns_182 (S : ZS) : Option (Int32 × ZS) :=
  some (0, S)
def d_X9_putSigns_160 (x0 : Nat) (x1 : Nat) (x2 : Int32) (x3 : Nat) (S : ZS) : Option (Int32 × ZS) :=
  m_chk (zK S x0 = 9) (
  m_cal (zP S 0 x0) (fun b1 =>
  m_chk (zK S b1 = 7) (
  m_cal (f_X7_checkSign b1 x1 x2 S) (fun o2 => m_chk (zt o2.2 = zt S ∧ zu o2.2 = zu S) (
  m_if (o2.1 = 0) (
  d_X9_putSigns_182 o2.2
  ) (
  m_chk (zK o2.2 x3 = 6) (
  m_cal2 (d_X6_put x3 o2.1 o2.2) (fun r4 S5 =>
  d_X9_putSigns_182 S5))
  ))))))
def d_X9_putSigns_136 (x0 : Nat) (x1 : Nat) (x2 : Int32) (x3 : Nat) (S : ZS) : Option (Int32 × ZS) :=
  m_if (x2 < (4096 : Int32)) (
  d_X9_putSigns_160 x0 x1 x2 x3 S
  ) (
  m_chk (zK S x3 = 6) (
  m_cal2 (d_X6_put x3 (61 : Int32) S) (fun r2 S3 =>
  m_bnd (x2 >>> ((12 : Int32) &&& 31)) (fun v6 =>
  m_cal (f_X11_letterOf v6 S3) (fun o7 => m_chk (zt o7.2 = zt S3 ∧ zu o7.2 = zu S3) (
  m_chk (zK o7.2 x3 = 6) (
  m_cal2 (d_X6_put x3 o7.1 o7.2) (fun r9 S10 =>
  d_X9_putSigns_160 x0 x1 x2 x3 S10)))))))
  )
def d_X9_putSigns_118 (x0 : Nat) (x1 : Nat) (x2 : Int32) (x3 : Nat) (x5 : Int32) (S : ZS) : Option (Int32 × ZS) :=
  m_cal (f_X11_fileLetter x5 S) (fun o1 => m_chk (zt o1.2 = zt S ∧ zu o1.2 = zu S) (
  m_chk (zK o1.2 x3 = 6) (
  m_cal2 (d_X6_put x3 o1.1 o1.2) (fun r3 S4 =>
  m_cal (f_X11_rankDigit x5 S4) (fun o7 => m_chk (zt o7.2 = zt S4 ∧ zu o7.2 = zu S4) (
  m_chk (zK o7.2 x3 = 6) (
  m_cal2 (d_X6_put x3 o7.1 o7.2) (fun r9 S10 =>
  d_X9_putSigns_136 x0 x1 x2 x3 S10))))))))
def d_X9_putSigns_107 (x0 : Nat) (x1 : Nat) (x2 : Int32) (x3 : Nat) (x5 : Int32) (x6 : Int32) (S : ZS) : Option (Int32 × ZS) :=
  m_if (x6 = 0) (
  d_X9_putSigns_118 x0 x1 x2 x3 x5 S
  ) (
  m_chk (zK S x3 = 6) (
  m_cal2 (d_X6_put x3 (120 : Int32) S) (fun r2 S3 =>
  d_X9_putSigns_118 x0 x1 x2 x3 x5 S3))
  )
def d_X9_putSigns_41 (x0 : Nat) (x1 : Nat) (x2 : Int32) (x3 : Nat) (t0 : Nat) (t1 : Nat) (S : ZS) : Option (Int32 × ZS) :=
  m_chk (zK S t1 = 6) (
  m_cal2 (d_X6_putText t1 t0 S) (fun r2 S3 =>
  d_X9_putSigns_136 x0 x1 x2 x3 S3))
def d_X9_putSigns_0 (x0 : Nat) (x1 : Nat) (x2 : Int32) (x3 : Nat) (S : ZS) : Option (Int32 × ZS) :=
  m_bnd (x2 &&& (63 : Int32)) (fun v1 =>
  m_bnd (x2 >>> ((6 : Int32) &&& 31)) (fun v2 =>
  m_bnd (v2 &&& (63 : Int32)) (fun v3 =>
  m_chk (zK S x1 = 0) (
  m_cal (f_X0_castles x1 v1 v3 S) (fun o4 => m_chk (zt o4.2 = zt S ∧ zu o4.2 = zu S) (
  m_if (o4.1 = 0) (
  m_chk (zK o4.2 x1 = 0) (
  m_cal (f_X0_takes x1 v1 v3 o4.2) (fun o5 => m_chk (zt o5.2 = zt o4.2 ∧ zu o5.2 = zu o4.2) (
  m_chk (zK o5.2 x1 = 0) (
  m_cal (f_X0_kindAt x1 v1 o5.2) (fun o6 => m_chk (zt o6.2 = zt o5.2 ∧ zu o6.2 = zu o5.2) (
  m_if (o6.1 = (1 : Int32)) (
  m_if (o5.1 = 0) (
  d_X9_putSigns_107 x0 x1 x2 x3 v3 o5.1 o6.2
  ) (
  m_cal (f_X11_fileLetter v1 o6.2) (fun o7 => m_chk (zt o7.2 = zt o6.2 ∧ zu o7.2 = zu o6.2) (
  m_chk (zK o7.2 x3 = 6) (
  m_cal2 (d_X6_put x3 o7.1 o7.2) (fun r9 S10 =>
  d_X9_putSigns_107 x0 x1 x2 x3 v3 o5.1 S10))))
  )
  ) (
  m_chk (zK o6.2 x1 = 0) (
  m_cal (f_X0_kindAt x1 v1 o6.2) (fun o13 => m_chk (zt o13.2 = zt o6.2 ∧ zu o13.2 = zu o6.2) (
  m_cal (f_X11_letterOf o13.1 o13.2) (fun o14 => m_chk (zt o14.2 = zt o13.2 ∧ zu o14.2 = zu o13.2) (
  m_chk (zK o14.2 x3 = 6) (
  m_cal2 (d_X6_put x3 o14.1 o14.2) (fun r16 S17 =>
  m_chk (zK S17 x0 = 9) (
  m_cal2 (d_X9_putApart x0 x1 v1 v3 x3 S17) (fun r21 S22 =>
  d_X9_putSigns_107 x0 x1 x2 x3 v3 o5.1 S22)))))))))
  )))))))
  ) (
  m_if (v3 ≤ v1) (
  d_X9_putSigns_41 x0 x1 x2 x3 8 x3 o4.2
  ) (
  d_X9_putSigns_41 x0 x1 x2 x3 7 x3 o4.2
  )
  )))))))
def d_X9_putSigns (x0 : Nat) (x1 : Nat) (x2 : Int32) (x3 : Nat) (S : ZS) : Option (Int32 × ZS) := d_X9_putSigns_0 x0 x1 x2 x3 S
def d_X3_putMove_66s (self66 : Nat → Nat → Int32 → ZS → Option (Int32 × ZS)) (x2 : Nat) (x4 : Nat) (x5 : Int32) (S : ZS) : Option (Int32 × ZS) :=
  m_chk (zK S x2 = 4) (
  m_if ((zI S 4 x2) ≤ x5) (
  m_cal2 (d_X3_putRemark x2 x4 S) (fun r2 S3 =>
  some (0, S3))
  ) (
  m_cal2 (d_X3_putGap x4 S) (fun r7 S8 =>
  m_chk (zK S8 x4 = 6) (
  m_cal2 (d_X6_put x4 (36 : Int32) S8) (fun r12 S13 =>
  m_chk (zK S13 x2 = 4) (
  m_cal (f_X4_markAt x2 x5 S13) (fun o16 => m_chk (zt o16.2 = zt S13 ∧ zu o16.2 = zu S13) (
  m_chk (zK o16.2 x4 = 6) (
  m_cal2 (d_X6_putNumber x4 o16.1 o16.2) (fun r18 S19 =>
  m_bnd (x5 + (1 : Int32)) (fun v22 =>
  self66 x2 x4 v22 S19)))))))))
  ))
def d_X3_putMove_66  : Nat → Nat → Nat → Int32 → ZS → Option (Int32 × ZS)
  | 0 => fun _ _ _ _ => none
  | n + 1 => d_X3_putMove_66s  (d_X3_putMove_66  n)
def d_X3_putMove_44 (x0 : Nat) (x1 : Nat) (x2 : Nat) (x4 : Nat) (S : ZS) : Option (Int32 × ZS) :=
  m_cal2 (d_X3_putGap x4 S) (fun r2 S3 =>
  m_chk (zK S3 x0 = 3) (
  m_cal (zP S3 0 x0) (fun b6 =>
  m_chk (zK S3 x2 = 4) (
  m_chk (zK S3 b6 = 9) (
  m_cal2 (d_X9_putSigns b6 x1 (zI S3 1 x2) x4 S3) (fun r8 S9 =>
  d_X3_putMove_66 mFuel x2 x4 (0 : Int32) S9))))))
def d_X3_putMove_41 (x0 : Nat) (x1 : Nat) (x2 : Nat) (x4 : Nat) (t0 : Nat) (t1 : Nat) (S : ZS) : Option (Int32 × ZS) :=
  m_chk (zK S t1 = 6) (
  m_cal2 (d_X6_putText t1 t0 S) (fun r2 S3 =>
  d_X3_putMove_44 x0 x1 x2 x4 S3))
def d_X3_putMove_11 (x0 : Nat) (x1 : Nat) (x2 : Nat) (x4 : Nat) (S : ZS) : Option (Int32 × ZS) :=
  m_cal2 (d_X3_putGap x4 S) (fun r2 S3 =>
  m_chk (zK S3 x1 = 0) (
  m_chk (zK S3 x4 = 6) (
  m_cal2 (d_X6_putNumber x4 (zI S3 6 x1) S3) (fun r7 S8 =>
  m_chk (zK S8 x1 = 0) (
  m_if ((zI S8 3 x1) = 0) (
  d_X3_putMove_41 x0 x1 x2 x4 13 x4 S8
  ) (
  d_X3_putMove_41 x0 x1 x2 x4 14 x4 S8
  ))))))
def d_X3_putMove_0 (x0 : Nat) (x1 : Nat) (x2 : Nat) (x3 : Int32) (x4 : Nat) (S : ZS) : Option (Int32 × ZS) :=
  m_chk (zK S x1 = 0) (
  m_if ((zI S 3 x1) = 0) (
  d_X3_putMove_11 x0 x1 x2 x4 S
  ) (
  m_if (x3 = 0) (
  d_X3_putMove_44 x0 x1 x2 x4 S
  ) (
  d_X3_putMove_11 x0 x1 x2 x4 S
  )
  ))
def d_X3_putMove (x0 : Nat) (x1 : Nat) (x2 : Nat) (x3 : Int32) (x4 : Nat) (S : ZS) : Option (Int32 × ZS) := d_X3_putMove_0 x0 x1 x2 x3 x4 S
def d_X3_putLine_206 (rec : Nat → Nat → Int32 → Int32 → Nat → ZS → Option (Int32 × ZS)) (S : ZS) : Option (Int32 × ZS) :=
  some (0, S)
def d_X3_putLine_183 (rec : Nat → Nat → Int32 → Int32 → Nat → ZS → Option (Int32 × ZS)) (self24 : Nat → Nat → Int32 → Nat → Nat → Int32 → Int32 → Int32 → ZS → Option (Int32 × ZS)) (x0 : Nat) (x1 : Nat) (x3 : Int32) (x4 : Nat) (x5 : Nat) (x6 : Int32) (x8 : Int32) (x9 : Nat) (S : ZS) : Option (Int32 × ZS) :=
  m_chk (zK S x9 = 4) (
  m_chk (zK S x5 = 0) (
  m_cal (f_X0_play x5 (zI S 1 x9) S) (fun o1 => m_chk (zt o1.2 = zt S ∧ zu o1.2 = zu S) (
  m_chk (zK o1.2 x9 = 4) (
  m_bnd (x8 + (1 : Int32)) (fun v2 =>
  self24 x0 x1 x3 x4 x5 x6 (zI o1.2 2 x9) v2 o1.2))))))
def d_X3_putLine_99s (rec : Nat → Nat → Int32 → Int32 → Nat → ZS → Option (Int32 × ZS)) (self24 : Nat → Nat → Int32 → Nat → Nat → Int32 → Int32 → Int32 → ZS → Option (Int32 × ZS)) (self99 : Nat → Nat → Int32 → Nat → Nat → Int32 → Int32 → Nat → Int32 → Int32 → ZS → Option (Int32 × ZS)) (x0 : Nat) (x1 : Nat) (x3 : Int32) (x4 : Nat) (x5 : Nat) (x6 : Int32) (x8 : Int32) (x9 : Nat) (x10 : Int32) (x11 : Int32) (S : ZS) : Option (Int32 × ZS) :=
  m_if ((300 : Int32) ≤ x11) (
  d_X3_putLine_183 rec self24 x0 x1 x3 x4 x5 x6 x8 x9 S
  ) (
  m_if (x10 = (-1 : Int32)) (
  d_X3_putLine_183 rec self24 x0 x1 x3 x4 x5 x6 x8 x9 S
  ) (
  m_if ((6 : Int32) ≤ x3) (
  d_X3_putLine_183 rec self24 x0 x1 x3 x4 x5 x6 x8 x9 S
  ) (
  m_chk (zK S x0 = 3) (
  m_cal (zP S 1 x0) (fun b1 =>
  m_bnd (x3 + (1 : Int32)) (fun v2 =>
  m_chk (zK S b1 = 15) (
  m_chk (¬ (v2 < 0 ∨ zN S b1 ≤ (v2).toNatClampNeg)) (
  m_cal (zB S b1 (v2).toNatClampNeg) (fun b3 =>
  m_chk (zK S b3 = 0) (
  m_cal (f_X0_copyFrom b3 x5 S) (fun o4 => m_chk (zt o4.2 = zt S ∧ zu o4.2 = zu S) (
  m_cal2 (d_X3_putGap x4 o4.2) (fun r6 S7 =>
  m_chk (zK S7 x4 = 6) (
  m_cal2 (d_X6_put x4 (40 : Int32) S7) (fun r11 S12 =>
  m_bnd (x3 + (1 : Int32)) (fun v15 =>
  m_chk (zK S12 x0 = 3) (
  m_cal2 (rec x0 x1 x10 v15 x4 S12) (fun r17 S18 =>
  m_chk (zK S18 x4 = 6) (
  m_cal2 (d_X6_put x4 (41 : Int32) S18) (fun r22 S23 =>
  m_chk (zK S23 x1 = 1) (
  m_cal (f_X1_at x1 x10 S23) (fun o26 => m_chk (zt o26.2 = zt S23 ∧ zu o26.2 = zu S23) (
  m_chk (zK o26.2 o26.1 = 4) (
  m_bnd (x11 + (1 : Int32)) (fun v27 =>
  self99 x0 x1 x3 x4 x5 (1 : Int32) x8 x9 (zI o26.2 3 o26.1) v27 o26.2))))))))))))))))))))))
  )
  )
  )
def d_X3_putLine_99 (rec : Nat → Nat → Int32 → Int32 → Nat → ZS → Option (Int32 × ZS)) (self24 : Nat → Nat → Int32 → Nat → Nat → Int32 → Int32 → Int32 → ZS → Option (Int32 × ZS)) : Nat → Nat → Nat → Int32 → Nat → Nat → Int32 → Int32 → Nat → Int32 → Int32 → ZS → Option (Int32 × ZS)
  | 0 => fun _ _ _ _ _ _ _ _ _ _ _ => none
  | n + 1 => d_X3_putLine_99s rec self24 (d_X3_putLine_99 rec self24 n)
def d_X3_putLine_94 (rec : Nat → Nat → Int32 → Int32 → Nat → ZS → Option (Int32 × ZS)) (self24 : Nat → Nat → Int32 → Nat → Nat → Int32 → Int32 → Int32 → ZS → Option (Int32 × ZS)) (x0 : Nat) (x1 : Nat) (x3 : Int32) (x4 : Nat) (x5 : Nat) (x6 : Int32) (x8 : Int32) (x9 : Nat) (t0 : Int32) (S : ZS) : Option (Int32 × ZS) :=
  d_X3_putLine_99 rec self24 mFuel x0 x1 x3 x4 x5 x6 x8 x9 t0 (0 : Int32) S
def d_X3_putLine_74 (rec : Nat → Nat → Int32 → Int32 → Nat → ZS → Option (Int32 × ZS)) (self24 : Nat → Nat → Int32 → Nat → Nat → Int32 → Int32 → Int32 → ZS → Option (Int32 × ZS)) (x0 : Nat) (x1 : Nat) (x3 : Int32) (x4 : Nat) (x5 : Nat) (x7 : Int32) (x8 : Int32) (x9 : Nat) (t0 : Int32) (S : ZS) : Option (Int32 × ZS) :=
  m_chk (zK S x1 = 1) (
  m_cal (f_X1_goesOn x1 x7 S) (fun o1 => m_chk (zt o1.2 = zt S ∧ zu o1.2 = zu S) (
  m_if (o1.1 = 0) (
  d_X3_putLine_94 rec self24 x0 x1 x3 x4 x5 t0 x8 x9 (-1 : Int32) o1.2
  ) (
  m_chk (zK o1.2 x9 = 4) (
  d_X3_putLine_94 rec self24 x0 x1 x3 x4 x5 t0 x8 x9 (zI o1.2 3 x9) o1.2)
  ))))
def d_X3_putLine_24s (rec : Nat → Nat → Int32 → Int32 → Nat → ZS → Option (Int32 × ZS)) (self24 : Nat → Nat → Int32 → Nat → Nat → Int32 → Int32 → Int32 → ZS → Option (Int32 × ZS)) (x0 : Nat) (x1 : Nat) (x3 : Int32) (x4 : Nat) (x5 : Nat) (x6 : Int32) (x7 : Int32) (x8 : Int32) (S : ZS) : Option (Int32 × ZS) :=
  m_if ((300 : Int32) ≤ x8) (
  d_X3_putLine_206 rec S
  ) (
  m_if (x7 = (-1 : Int32)) (
  d_X3_putLine_206 rec S
  ) (
  m_chk (zK S x1 = 1) (
  m_cal (f_X1_at x1 x7 S) (fun o1 => m_chk (zt o1.2 = zt S ∧ zu o1.2 = zu S) (
  m_chk (zK o1.2 x0 = 3) (
  m_cal2 (d_X3_putMove x0 x5 o1.1 x6 x4 o1.2) (fun r3 S4 =>
  m_chk (zK S4 o1.1 = 4) (
  m_cal (zP S4 6 o1.1) (fun b7 =>
  m_chk (zK S4 b7 = 6) (
  m_cal (f_X6_size b7 S4) (fun o8 => m_chk (zt o8.2 = zt S4 ∧ zu o8.2 = zu S4) (
  m_if (o8.1 ≤ 0) (
  d_X3_putLine_74 rec self24 x0 x1 x3 x4 x5 x7 x8 o1.1 (0 : Int32) o8.2
  ) (
  d_X3_putLine_74 rec self24 x0 x1 x3 x4 x5 x7 x8 o1.1 (1 : Int32) o8.2
  )))))))))))
  )
  )
def d_X3_putLine_24 (rec : Nat → Nat → Int32 → Int32 → Nat → ZS → Option (Int32 × ZS)) : Nat → Nat → Nat → Int32 → Nat → Nat → Int32 → Int32 → Int32 → ZS → Option (Int32 × ZS)
  | 0 => fun _ _ _ _ _ _ _ _ _ => none
  | n + 1 => d_X3_putLine_24s rec (d_X3_putLine_24 rec n)
def d_X3_putLine_0 (rec : Nat → Nat → Int32 → Int32 → Nat → ZS → Option (Int32 × ZS)) (x0 : Nat) (x1 : Nat) (x2 : Int32) (x3 : Int32) (x4 : Nat) (S : ZS) : Option (Int32 × ZS) :=
  m_if (x3 ≤ (6 : Int32)) (
  m_chk (zK S x0 = 3) (
  m_cal (zP S 1 x0) (fun b1 =>
  m_chk (zK S b1 = 15) (
  m_chk (¬ (x3 < 0 ∨ zN S b1 ≤ (x3).toNatClampNeg)) (
  m_cal (zB S b1 (x3).toNatClampNeg) (fun b2 =>
  d_X3_putLine_24 rec mFuel x0 x1 x3 x4 b2 (1 : Int32) x2 (0 : Int32) S)))))
  ) (
  some (0, S)
  )
def dr_X3_putLine : Nat → Nat → Nat → Int32 → Int32 → Nat → ZS → Option (Int32 × ZS)
  | 0 => fun _ _ _ _ _ _ => none
  | n + 1 => fun x0 x1 x2 x3 x4 S => d_X3_putLine_0 (dr_X3_putLine n) x0 x1 x2 x3 x4 S
def d_X3_putLine (x0 : Nat) (x1 : Nat) (x2 : Int32) (x3 : Int32) (x4 : Nat) (S : ZS) : Option (Int32 × ZS) := dr_X3_putLine 8 x0 x1 x2 x3 x4 S
def d_X11_init_0 (x0 : Nat) (S : ZS) : Option (Int32 × ZS) :=
  m_bnd (zt S) (fun q1 =>
  m_bnd (zsNewO S q1 6 2) (fun S2 =>
  m_cal (f_X6_init q1 S2) (fun o5 => m_chk (zt o5.2 = zt S2 ∧ zu o5.2 = zu S2) (
  m_chk (zK o5.2 x0 = 11) (
  m_bnd (zsP o5.2 0 x0 (some q1)) (fun S6 =>
  m_bnd (zt S6) (fun q7 =>
  m_bnd (zsNewO S6 q7 6 2) (fun S8 =>
  m_cal (f_X6_init q7 S8) (fun o11 => m_chk (zt o11.2 = zt S8 ∧ zu o11.2 = zu S8) (
  m_chk (zK o11.2 x0 = 11) (
  m_bnd (zsP o11.2 1 x0 (some q7)) (fun S12 =>
  m_bnd (zt S12) (fun q13 =>
  m_bnd (zsNewO S12 q13 7 2) (fun S14 =>
  m_cal2 (d_X7_init q13 S14) (fun r18 S19 =>
  m_chk (zK S19 x0 = 11) (
  m_bnd (zsP S19 2 x0 (some q13)) (fun S22 =>
  m_bnd (zt S22) (fun q23 =>
  m_bnd (zsNewO S22 q23 8 12) (fun S24 =>
  m_cal2 (d_X8_init q23 S24) (fun r28 S29 =>
  m_chk (zK S29 x0 = 11) (
  m_bnd (zsP S29 3 x0 (some q23)) (fun S32 =>
  m_bnd (zt S32) (fun q33 =>
  m_bnd (zsNewO S32 q33 9 1) (fun S34 =>
  m_cal2 (d_X9_init q33 S34) (fun r38 S39 =>
  m_chk (zK S39 x0 = 11) (
  m_bnd (zsP S39 4 x0 (some q33)) (fun S42 =>
  m_bnd (zt S42) (fun q43 =>
  m_bnd (zsNewO S42 q43 2 12) (fun S44 =>
  m_cal2 (d_X2_init q43 S44) (fun r48 S49 =>
  m_chk (zK S49 x0 = 11) (
  m_bnd (zsP S49 5 x0 (some q43)) (fun S52 =>
  m_bnd (zt S52) (fun q53 =>
  m_bnd (zsNewO S52 q53 3 2) (fun S54 =>
  m_cal2 (d_X3_init q53 S54) (fun r58 S59 =>
  m_chk (zK S59 x0 = 11) (
  m_bnd (zsP S59 6 x0 (some q53)) (fun S62 =>
  m_bnd (zt S62) (fun q63 =>
  m_bnd (zsNewO S62 q63 1 8) (fun S64 =>
  m_cal2 (d_X1_init q63 S64) (fun r68 S69 =>
  m_chk (zK S69 x0 = 11) (
  m_bnd (zsP S69 7 x0 (some q63)) (fun S72 =>
  m_chk (zK S72 x0 = 11) (
  m_bnd (zsI S72 8 x0 (0 : Int32)) (fun S73 =>
  m_bnd (zt S73) (fun q74 =>
  m_bnd (zsNewO S73 q74 0 7) (fun S75 =>
  m_cal2 (d_X0_init q74 S75) (fun r79 S80 =>
  m_chk (zK S80 x0 = 11) (
  m_bnd (zsP S80 9 x0 (some q74)) (fun S83 =>
  m_chk (zK S83 x0 = 11) (
  m_cal (zP S83 9 x0) (fun b84 =>
  m_chk (zK S83 b84 = 0) (
  m_cal (f_X0_setUp b84 S83) (fun o85 => m_chk (zt o85.2 = zt S83 ∧ zu o85.2 = zu S83) (
  some (0, o85.2)))))))))))))))))))))))))))))))))))))))))))))))))))))))
def d_X11_init (x0 : Nat) (S : ZS) : Option (Int32 × ZS) := d_X11_init_0 x0 S
def d_X11_type_26 (S : ZS) : Option (Int32 × ZS) :=
  m_chk (vp_nar .boolean (0 : Int32) = (0 : Int32)) (
  some ((0 : Int32), S))
def d_X11_type_77s (self77 : Nat → Int64 → Int32 → Int32 → ZS → Option (Int32 × ZS)) (x0 : Nat) (x1 : Int64) (x3 : Int32) (x4 : Int32) (S : ZS) : Option (Int32 × ZS) :=
  m_if (x3 ≤ x4) (
  m_chk (vp_nar .boolean (1 : Int32) = (1 : Int32)) (
  some ((1 : Int32), S))
  ) (
  m_chk (zK S x0 = 11) (
  m_cal (zP S 0 x0) (fun b1 =>
  m_cal (f_X11_byteOf x1 x4 S) (fun o2 => m_chk (zt o2.2 = zt S ∧ zu o2.2 = zu S) (
  m_chk (zK o2.2 b1 = 6) (
  m_cal2 (d_X6_put b1 o2.1 o2.2) (fun r4 S5 =>
  m_bnd (x4 + (1 : Int32)) (fun v8 =>
  self77 x0 x1 x3 v8 S5)))))))
  )
def d_X11_type_77  : Nat → Nat → Int64 → Int32 → Int32 → ZS → Option (Int32 × ZS)
  | 0 => fun _ _ _ _ _ => none
  | n + 1 => d_X11_type_77s  (d_X11_type_77  n)
def d_X11_type_68 (self31 : Nat → Int64 → Int32 → Int32 → ZS → Option (Int32 × ZS)) (x0 : Nat) (x1 : Int64) (x3 : Int32) (x4 : Int32) (S : ZS) : Option (Int32 × ZS) :=
  m_bnd (x4 + (1 : Int32)) (fun v1 =>
  self31 x0 x1 x3 v1 S)
def d_X11_type_66 (S : ZS) : Option (Int32 × ZS) :=
  m_chk (vp_nar .boolean (0 : Int32) = (0 : Int32)) (
  some ((0 : Int32), S))
def d_X11_type_31s (self31 : Nat → Int64 → Int32 → Int32 → ZS → Option (Int32 × ZS)) (x0 : Nat) (x1 : Int64) (x3 : Int32) (x4 : Int32) (S : ZS) : Option (Int32 × ZS) :=
  m_if (x3 ≤ x4) (
  d_X11_type_77 mFuel x0 x1 x3 (0 : Int32) S
  ) (
  m_cal (f_X11_byteOf x1 x4 S) (fun o1 => m_chk (zt o1.2 = zt S ∧ zu o1.2 = zu S) (
  m_if (o1.1 = (10 : Int32)) (
  d_X11_type_68 self31 x0 x1 x3 x4 o1.2
  ) (
  m_if (o1.1 < (32 : Int32)) (
  d_X11_type_66 o1.2
  ) (
  m_if (o1.1 ≤ (126 : Int32)) (
  d_X11_type_68 self31 x0 x1 x3 x4 o1.2
  ) (
  d_X11_type_66 o1.2
  )
  )
  )))
  )
def d_X11_type_31  : Nat → Nat → Int64 → Int32 → Int32 → ZS → Option (Int32 × ZS)
  | 0 => fun _ _ _ _ _ => none
  | n + 1 => d_X11_type_31s  (d_X11_type_31  n)
def d_X11_type_0 (x0 : Nat) (x1 : Int64) (x3 : Int32) (S : ZS) : Option (Int32 × ZS) :=
  m_if (x3 < (1 : Int32)) (
  d_X11_type_26 S
  ) (
  m_if ((8 : Int32) < x3) (
  d_X11_type_26 S
  ) (
  m_chk (zK S x0 = 11) (
  m_cal (zP S 0 x0) (fun b1 =>
  m_chk (zK S b1 = 6) (
  m_cal (f_X6_size b1 S) (fun o2 => m_chk (zt o2.2 = zt S ∧ zu o2.2 = zu S) (
  m_bnd (o2.1 + x3) (fun v3 =>
  m_if (v3 ≤ (2000 : Int32)) (
  d_X11_type_31 mFuel x0 x1 x3 (0 : Int32) o2.2
  ) (
  d_X11_type_26 o2.2
  )))))))
  )
  )
def d_X11_type (x0 : Nat) (x1 : Int64) (x3 : Int32) (S : ZS) : Option (Int32 × ZS) := d_X11_type_0 x0 x1 x3 S
def d_X11_read_41 (x0 : Nat) (S : ZS) : Option (Int32 × ZS) :=
  m_chk (zK S x0 = 11) (
  m_cal (zP S 5 x0) (fun b1 =>
  m_chk (zK S b1 = 2) (
  m_cal (f_X2_fault b1 S) (fun o2 => m_chk (zt o2.2 = zt S ∧ zu o2.2 = zu S) (
  some (o2.1, o2.2))))))
def d_X11_read_0 (x0 : Nat) (S : ZS) : Option (Int32 × ZS) :=
  m_chk (zK S x0 = 11) (
  m_cal (zP S 5 x0) (fun b1 =>
  m_chk (zK S x0 = 11) (
  m_cal (zP S 0 x0) (fun b2 =>
  m_chk (zK S b1 = 2) (
  m_cal (f_X2_begin b1 b2 S) (fun o3 => m_chk (zt o3.2 = zt S ∧ zu o3.2 = zu S) (
  m_chk (zK o3.2 x0 = 11) (
  m_cal (zP o3.2 5 x0) (fun b4 =>
  m_chk (zK o3.2 b4 = 2) (
  m_cal2 (d_X2_readHead b4 o3.2) (fun r6 S7 =>
  m_if (r6 = 0) (
  d_X11_read_41 x0 S7
  ) (
  m_chk (zK S7 x0 = 11) (
  m_cal (zP S7 5 x0) (fun b10 =>
  m_chk (zK S7 b10 = 2) (
  m_cal2 (d_X2_readMoves b10 S7) (fun r12 S13 =>
  m_if (r12 = 0) (
  d_X11_read_41 x0 S13
  ) (
  m_chk (zK S13 x0 = 11) (
  m_cal (zP S13 5 x0) (fun b16 =>
  m_chk (zK S13 b16 = 2) (
  m_cal2 (d_X2_readEnd b16 S13) (fun r18 S19 =>
  m_if (r18 = 0) (
  d_X11_read_41 x0 S19
  ) (
  m_chk (zK S19 x0 = 11) (
  m_cal (zP S19 5 x0) (fun b22 =>
  m_chk (zK S19 x0 = 11) (
  m_cal (zP S19 7 x0) (fun b23 =>
  m_chk (zK S19 b22 = 2) (
  m_cal (f_X2_exchange b22 b23 S19) (fun o24 => m_chk (zt o24.2 = zt S19 ∧ zu o24.2 = zu S19) (
  m_chk (zK o24.2 x0 = 11) (
  m_bnd (zsP o24.2 7 x0 (some o24.1)) (fun S25 =>
  m_chk (zK S25 x0 = 11) (
  m_cal (zP S25 0 x0) (fun b26 =>
  m_chk (zK S25 b26 = 6) (
  m_cal (f_X6_keep b26 (0 : Int32) S25) (fun o27 => m_chk (zt o27.2 = zt S25 ∧ zu o27.2 = zu S25) (
  m_chk (zK o27.2 x0 = 11) (
  m_bnd (zsI o27.2 8 x0 (0 : Int32)) (fun S28 =>
  m_chk (zK S28 x0 = 11) (
  m_cal (zP S28 7 x0) (fun b29 =>
  m_chk (zK S28 x0 = 11) (
  m_cal (zP S28 9 x0) (fun b30 =>
  m_chk (zK S28 b29 = 1) (
  m_cal (f_X1_standAt b29 (0 : Int32) b30 S28) (fun o31 => m_chk (zt o31.2 = zt S28 ∧ zu o31.2 = zu S28) (
  some ((0 : Int32), o31.2))))))))))))))))))))))))
  )))))
  )))))
  ))))))))))))
def d_X11_read (x0 : Nat) (S : ZS) : Option (Int32 × ZS) := d_X11_read_0 x0 S
def d_X11_find_0 (x0 : Nat) (S : ZS) : Option (Int32 × ZS) :=
  m_chk (zK S x0 = 11) (
  m_cal (zP S 3 x0) (fun b1 =>
  m_chk (zK S x0 = 11) (
  m_cal (zP S 9 x0) (fun b2 =>
  m_chk (zK S x0 = 11) (
  m_cal (zP S 0 x0) (fun b3 =>
  m_chk (zK S x0 = 11) (
  m_cal (zP S 0 x0) (fun b4 =>
  m_chk (zK S b4 = 6) (
  m_cal (f_X6_size b4 S) (fun o5 => m_chk (zt o5.2 = zt S ∧ zu o5.2 = zu S) (
  m_chk (zK o5.2 b1 = 8) (
  m_cal2 (d_X8_matched b1 b2 b3 (0 : Int32) o5.1 o5.2) (fun r7 S8 =>
  some (r7, S8))))))))))))))
def d_X11_find (x0 : Nat) (S : ZS) : Option (Int32 × ZS) := d_X11_find_0 x0 S
def d_X11_write_0 (x0 : Nat) (S : ZS) : Option (Int32 × ZS) :=
  m_chk (zK S x0 = 11) (
  m_cal (zP S 1 x0) (fun b1 =>
  m_chk (zK S b1 = 6) (
  m_cal (f_X6_keep b1 (0 : Int32) S) (fun o2 => m_chk (zt o2.2 = zt S ∧ zu o2.2 = zu S) (
  m_chk (zK o2.2 x0 = 11) (
  m_cal (zP o2.2 6 x0) (fun b3 =>
  m_chk (zK o2.2 x0 = 11) (
  m_cal (zP o2.2 7 x0) (fun b4 =>
  m_chk (zK o2.2 x0 = 11) (
  m_cal (zP o2.2 1 x0) (fun b5 =>
  m_chk (zK o2.2 b3 = 3) (
  m_cal2 (d_X3_putHead b3 b4 b5 o2.2) (fun r7 S8 =>
  m_chk (zK S8 x0 = 11) (
  m_cal (zP S8 6 x0) (fun b11 =>
  m_chk (zK S8 x0 = 11) (
  m_cal (zP S8 7 x0) (fun b12 =>
  m_chk (zK S8 x0 = 11) (
  m_cal (zP S8 7 x0) (fun b13 =>
  m_chk (zK S8 b13 = 1) (
  m_cal (f_X1_at b13 (0 : Int32) S8) (fun o14 => m_chk (zt o14.2 = zt S8 ∧ zu o14.2 = zu S8) (
  m_chk (zK o14.2 o14.1 = 4) (
  m_chk (zK o14.2 x0 = 11) (
  m_cal (zP o14.2 1 x0) (fun b15 =>
  m_chk (zK o14.2 b11 = 3) (
  m_cal2 (d_X3_putLine b11 b12 (zI o14.2 2 o14.1) (0 : Int32) b15 o14.2) (fun r17 S18 =>
  m_chk (zK S18 x0 = 11) (
  m_cal (zP S18 6 x0) (fun b21 =>
  m_chk (zK S18 x0 = 11) (
  m_cal (zP S18 7 x0) (fun b22 =>
  m_chk (zK S18 x0 = 11) (
  m_cal (zP S18 1 x0) (fun b23 =>
  m_chk (zK S18 b21 = 3) (
  m_cal2 (d_X3_putEnd b21 b22 b23 S18) (fun r25 S26 =>
  m_chk (zK S26 x0 = 11) (
  m_cal (zP S26 1 x0) (fun b29 =>
  m_chk (zK S26 b29 = 6) (
  m_cal (f_X6_size b29 S26) (fun o30 => m_chk (zt o30.2 = zt S26 ∧ zu o30.2 = zu S26) (
  some (o30.1, o30.2)))))))))))))))))))))))))))))))))))))))))
def d_X11_write (x0 : Nat) (S : ZS) : Option (Int32 × ZS) := d_X11_write_0 x0 S
def d_X11_signs_0 (x0 : Nat) (x1 : Int32) (S : ZS) : Option ((Nat × Int32) × ZS) :=
  m_chk (zK S x0 = 11) (
  m_cal (zP S 2 x0) (fun b1 =>
  m_chk (zK S x0 = 11) (
  m_cal (zP S 9 x0) (fun b2 =>
  m_chk (zK S b1 = 7) (
  m_cal (f_X7_isLegal b1 b2 x1 S) (fun o3 => m_chk (zt o3.2 = zt S ∧ zu o3.2 = zu S) (
  m_if (o3.1 = 0) (
  some ((1, 0), zsQ o3.2)
  ) (
  m_chk (zK o3.2 x0 = 11) (
  m_cal (zP o3.2 1 x0) (fun b4 =>
  m_chk (zK o3.2 b4 = 6) (
  m_cal (f_X6_keep b4 (0 : Int32) o3.2) (fun o5 => m_chk (zt o5.2 = zt o3.2 ∧ zu o5.2 = zu o3.2) (
  m_chk (zK o5.2 x0 = 11) (
  m_cal (zP o5.2 4 x0) (fun b6 =>
  m_chk (zK o5.2 x0 = 11) (
  m_cal (zP o5.2 9 x0) (fun b7 =>
  m_chk (zK o5.2 x0 = 11) (
  m_cal (zP o5.2 1 x0) (fun b8 =>
  m_chk (zK o5.2 b6 = 9) (
  m_cal2 (d_X9_putSigns b6 b7 x1 b8 o5.2) (fun r10 S11 =>
  m_chk (zK S11 x0 = 11) (
  m_cal (zP S11 1 x0) (fun b14 =>
  m_chk (zK S11 b14 = 6) (
  m_cal (f_X6_size b14 S11) (fun o15 => m_chk (zt o15.2 = zt S11 ∧ zu o15.2 = zu S11) (
  some ((0, o15.1), o15.2)))))))))))))))))))
  ))))))))
def d_X11_signs (x0 : Nat) (x1 : Int32) (S : ZS) : Option ((Nat × Int32) × ZS) := d_X11_signs_0 x0 x1 S
def d_X11_node_0 (x0 : Nat) (x1 : Int32) (x2 : Int32) (S : ZS) : Option ((Nat × Int32) × ZS) :=
  m_chk (zK S x0 = 11) (
  m_cal (zP S 7 x0) (fun b1 =>
  m_chk (zK S b1 = 1) (
  m_cal (f_X1_has b1 x1 S) (fun o2 => m_chk (zt o2.2 = zt S ∧ zu o2.2 = zu S) (
  m_if (o2.1 = 0) (
  some ((2, 0), zsQ o2.2)
  ) (
  m_chk (zK o2.2 x0 = 11) (
  m_cal (zP o2.2 7 x0) (fun b3 =>
  m_chk (zK o2.2 b3 = 1) (
  m_cal (f_X1_at b3 x1 o2.2) (fun o4 => m_chk (zt o4.2 = zt o2.2 ∧ zu o4.2 = zu o2.2) (
  m_if (x2 = (0 : Int32)) (
  m_chk (zK o4.2 o4.1 = 4) (
  some ((0, (zI o4.2 0 o4.1)), o4.2))
  ) (
  m_if (x2 = (1 : Int32)) (
  m_chk (zK o4.2 o4.1 = 4) (
  some ((0, (zI o4.2 1 o4.1)), o4.2))
  ) (
  m_if (x2 = (2 : Int32)) (
  m_chk (zK o4.2 o4.1 = 4) (
  some ((0, (zI o4.2 2 o4.1)), o4.2))
  ) (
  m_if (x2 = (3 : Int32)) (
  m_chk (zK o4.2 o4.1 = 4) (
  some ((0, (zI o4.2 3 o4.1)), o4.2))
  ) (
  m_if (x2 = (4 : Int32)) (
  m_chk (zK o4.2 o4.1 = 4) (
  some ((0, (zI o4.2 4 o4.1)), o4.2))
  ) (
  m_if (x2 = (5 : Int32)) (
  m_chk (zK o4.2 o4.1 = 4) (
  m_cal (zP o4.2 6 o4.1) (fun b5 =>
  m_chk (zK o4.2 b5 = 6) (
  m_cal (f_X6_size b5 o4.2) (fun o6 => m_chk (zt o6.2 = zt o4.2 ∧ zu o6.2 = zu o4.2) (
  some ((0, o6.1), o6.2))))))
  ) (
  some ((2, 0), zsQ o4.2)
  )
  )
  )
  )
  )
  ))))))
  ))))))
def d_X11_node (x0 : Nat) (x1 : Int32) (x2 : Int32) (S : ZS) : Option ((Nat × Int32) × ZS) := d_X11_node_0 x0 x1 x2 S
def d_X11_mark_30 (S : ZS) : Option ((Nat × Int32) × ZS) :=
  some ((2, 0), zsQ S)
def d_X11_mark_0 (x0 : Nat) (x1 : Int32) (x2 : Int32) (S : ZS) : Option ((Nat × Int32) × ZS) :=
  m_chk (zK S x0 = 11) (
  m_cal (zP S 7 x0) (fun b1 =>
  m_chk (zK S b1 = 1) (
  m_cal (f_X1_has b1 x1 S) (fun o2 => m_chk (zt o2.2 = zt S ∧ zu o2.2 = zu S) (
  m_if (o2.1 = 0) (
  d_X11_mark_30 o2.2
  ) (
  m_if (x2 < 0) (
  d_X11_mark_30 o2.2
  ) (
  m_chk (zK o2.2 x0 = 11) (
  m_cal (zP o2.2 7 x0) (fun b3 =>
  m_chk (zK o2.2 b3 = 1) (
  m_cal (f_X1_at b3 x1 o2.2) (fun o4 => m_chk (zt o4.2 = zt o2.2 ∧ zu o4.2 = zu o2.2) (
  m_chk (zK o4.2 o4.1 = 4) (
  m_if (x2 < (zI o4.2 4 o4.1)) (
  m_chk (zK o4.2 x0 = 11) (
  m_cal (zP o4.2 7 x0) (fun b5 =>
  m_chk (zK o4.2 b5 = 1) (
  m_cal (f_X1_at b5 x1 o4.2) (fun o6 => m_chk (zt o6.2 = zt o4.2 ∧ zu o6.2 = zu o4.2) (
  m_chk (zK o6.2 o6.1 = 4) (
  m_cal (f_X4_markAt o6.1 x2 o6.2) (fun o7 => m_chk (zt o7.2 = zt o6.2 ∧ zu o7.2 = zu o6.2) (
  some ((0, o7.1), o7.2)))))))))
  ) (
  d_X11_mark_30 o4.2
  )))))))
  )
  ))))))
def d_X11_mark (x0 : Nat) (x1 : Int32) (x2 : Int32) (S : ZS) : Option ((Nat × Int32) × ZS) := d_X11_mark_0 x0 x1 x2 S
def d_X11_remark_33 (S : ZS) : Option ((Nat × Int32) × ZS) :=
  some ((2, 0), zsQ S)
def d_X11_remark_0 (x0 : Nat) (x1 : Int32) (x2 : Int32) (S : ZS) : Option ((Nat × Int32) × ZS) :=
  m_chk (zK S x0 = 11) (
  m_cal (zP S 7 x0) (fun b1 =>
  m_chk (zK S b1 = 1) (
  m_cal (f_X1_has b1 x1 S) (fun o2 => m_chk (zt o2.2 = zt S ∧ zu o2.2 = zu S) (
  m_if (o2.1 = 0) (
  d_X11_remark_33 o2.2
  ) (
  m_if (x2 < 0) (
  d_X11_remark_33 o2.2
  ) (
  m_chk (zK o2.2 x0 = 11) (
  m_cal (zP o2.2 7 x0) (fun b3 =>
  m_chk (zK o2.2 b3 = 1) (
  m_cal (f_X1_at b3 x1 o2.2) (fun o4 => m_chk (zt o4.2 = zt o2.2 ∧ zu o4.2 = zu o2.2) (
  m_chk (zK o4.2 o4.1 = 4) (
  m_cal (zP o4.2 6 o4.1) (fun b5 =>
  m_chk (zK o4.2 b5 = 6) (
  m_cal (f_X6_size b5 o4.2) (fun o6 => m_chk (zt o6.2 = zt o4.2 ∧ zu o6.2 = zu o4.2) (
  m_if (x2 < o6.1) (
  m_chk (zK o6.2 x0 = 11) (
  m_cal (zP o6.2 7 x0) (fun b7 =>
  m_chk (zK o6.2 b7 = 1) (
  m_cal (f_X1_at b7 x1 o6.2) (fun o8 => m_chk (zt o8.2 = zt o6.2 ∧ zu o8.2 = zu o6.2) (
  m_chk (zK o8.2 o8.1 = 4) (
  m_cal (zP o8.2 6 o8.1) (fun b9 =>
  m_chk (zK o8.2 b9 = 6) (
  m_cal (f_X6_at b9 x2 o8.2) (fun o10 => m_chk (zt o10.2 = zt o8.2 ∧ zu o10.2 = zu o8.2) (
  some ((0, o10.1), o10.2)))))))))))
  ) (
  d_X11_remark_33 o6.2
  )))))))))))
  )
  ))))))
def d_X11_remark (x0 : Nat) (x1 : Int32) (x2 : Int32) (S : ZS) : Option ((Nat × Int32) × ZS) := d_X11_remark_0 x0 x1 x2 S
def d_X11_go_0 (x0 : Nat) (x1 : Int32) (S : ZS) : Option ((Nat × Int32) × ZS) :=
  m_chk (zK S x0 = 11) (
  m_cal (zP S 7 x0) (fun b1 =>
  m_chk (zK S b1 = 1) (
  m_cal (f_X1_has b1 x1 S) (fun o2 => m_chk (zt o2.2 = zt S ∧ zu o2.2 = zu S) (
  m_if (o2.1 = 0) (
  some ((2, 0), zsQ o2.2)
  ) (
  m_chk (zK o2.2 x0 = 11) (
  m_bnd (zsI o2.2 8 x0 x1) (fun S3 =>
  m_chk (zK S3 x0 = 11) (
  m_cal (zP S3 7 x0) (fun b4 =>
  m_chk (zK S3 x0 = 11) (
  m_cal (zP S3 9 x0) (fun b5 =>
  m_chk (zK S3 b4 = 1) (
  m_cal (f_X1_standAt b4 x1 b5 S3) (fun o6 => m_chk (zt o6.2 = zt S3 ∧ zu o6.2 = zu S3) (
  some ((0, 0), o6.2))))))))))
  ))))))
def d_X11_go (x0 : Nat) (x1 : Int32) (S : ZS) : Option ((Nat × Int32) × ZS) := d_X11_go_0 x0 x1 S
def d_X11_man_10 (S : ZS) : Option ((Nat × Int32) × ZS) :=
  some ((2, 0), zsQ S)
def d_X11_man_0 (x0 : Nat) (x1 : Int32) (S : ZS) : Option ((Nat × Int32) × ZS) :=
  m_if (x1 < 0) (
  d_X11_man_10 S
  ) (
  m_if (x1 < (64 : Int32)) (
  m_chk (zK S x0 = 11) (
  m_cal (zP S 9 x0) (fun b1 =>
  m_chk (zK S b1 = 0) (
  m_cal (zP S 0 b1) (fun b2 =>
  m_chk (zK S b2 = 14) (
  m_chk (¬ (x1 < 0 ∨ zN S b2 ≤ (x1).toNatClampNeg)) (
  m_bnd (zA S b2 (x1).toNatClampNeg) (fun v3 =>
  some ((0, v3), S))))))))
  ) (
  d_X11_man_10 S
  )
  )
def d_X11_man (x0 : Nat) (x1 : Int32) (S : ZS) : Option ((Nat × Int32) × ZS) := d_X11_man_0 x0 x1 S
def d_X11_add_95 (x0 : Nat) (x1 : Int32) (x2 : Int32) (S : ZS) : Option ((Nat × Int32) × ZS) :=
  m_chk (zK S x0 = 11) (
  m_bnd (zsI S 8 x0 x2) (fun S1 =>
  m_chk (zK S1 x0 = 11) (
  m_cal (zP S1 9 x0) (fun b2 =>
  m_chk (zK S1 b2 = 0) (
  m_cal (f_X0_play b2 x1 S1) (fun o3 => m_chk (zt o3.2 = zt S1 ∧ zu o3.2 = zu S1) (
  some ((0, x2), o3.2))))))))
def d_X11_add_72 (S : ZS) : Option ((Nat × Int32) × ZS) :=
  some ((3, 0), zsQ S)
def d_X11_add_0 (x0 : Nat) (x1 : Int32) (S : ZS) : Option ((Nat × Int32) × ZS) :=
  m_chk (zK S x0 = 11) (
  m_cal (zP S 2 x0) (fun b1 =>
  m_chk (zK S x0 = 11) (
  m_cal (zP S 9 x0) (fun b2 =>
  m_chk (zK S b1 = 7) (
  m_cal (f_X7_isLegal b1 b2 x1 S) (fun o3 => m_chk (zt o3.2 = zt S ∧ zu o3.2 = zu S) (
  m_if (o3.1 = 0) (
  some ((1, 0), zsQ o3.2)
  ) (
  m_chk (zK o3.2 x0 = 11) (
  m_cal (zP o3.2 7 x0) (fun b4 =>
  m_chk (zK o3.2 x0 = 11) (
  m_chk (zK o3.2 b4 = 1) (
  m_cal (f_X1_childWith b4 (zI o3.2 8 x0) x1 o3.2) (fun o5 => m_chk (zt o5.2 = zt o3.2 ∧ zu o5.2 = zu o3.2) (
  m_if (o5.1 = (-1 : Int32)) (
  m_chk (zK o5.2 x0 = 11) (
  m_cal (zP o5.2 7 x0) (fun b6 =>
  m_chk (zK o5.2 b6 = 1) (
  m_if ((300 : Int32) ≤ (zI o5.2 3 b6)) (
  d_X11_add_72 o5.2
  ) (
  m_chk (zK o5.2 x0 = 11) (
  m_cal (zP o5.2 7 x0) (fun b7 =>
  m_chk (zK o5.2 x0 = 11) (
  m_chk (zK o5.2 b7 = 1) (
  m_cal (f_X1_deepOfNext b7 (zI o5.2 8 x0) o5.2) (fun o8 => m_chk (zt o8.2 = zt o5.2 ∧ zu o8.2 = zu o5.2) (
  m_if (o8.1 ≤ (6 : Int32)) (
  m_chk (zK o8.2 x0 = 11) (
  m_cal (zP o8.2 7 x0) (fun b9 =>
  m_chk (zK o8.2 x0 = 11) (
  m_chk (zK o8.2 b9 = 1) (
  m_cal2 (d_X1_grow b9 (zI o8.2 8 x0) x1 o8.2) (fun r11 S12 =>
  d_X11_add_95 x0 x1 r11 S12)))))
  ) (
  d_X11_add_72 o8.2
  )))))))
  ))))
  ) (
  d_X11_add_95 x0 x1 o5.1 o5.2
  )))))))
  ))))))))
def d_X11_add (x0 : Nat) (x1 : Int32) (S : ZS) : Option ((Nat × Int32) × ZS) := d_X11_add_0 x0 x1 S
def d_X11_addMark_11 (S : ZS) : Option ((Nat × Int32) × ZS) :=
  some ((1, 0), zsQ S)
def d_X11_addMark_48 (S : ZS) : Option ((Nat × Int32) × ZS) :=
  some ((4, 0), zsQ S)
def d_X11_addMark_0 (x0 : Nat) (x1 : Int32) (S : ZS) : Option ((Nat × Int32) × ZS) :=
  m_if (x1 < 0) (
  d_X11_addMark_11 S
  ) (
  m_if (x1 ≤ (255 : Int32)) (
  m_chk (zK S x0 = 11) (
  m_cal (zP S 7 x0) (fun b1 =>
  m_chk (zK S x0 = 11) (
  m_chk (zK S b1 = 1) (
  m_cal (f_X1_at b1 (zI S 8 x0) S) (fun o2 => m_chk (zt o2.2 = zt S ∧ zu o2.2 = zu S) (
  m_chk (zK o2.2 x0 = 11) (
  m_if ((zI o2.2 8 x0) = 0) (
  d_X11_addMark_48 o2.2
  ) (
  m_chk (zK o2.2 o2.1 = 4) (
  m_if ((zI o2.2 4 o2.1) < (4 : Int32)) (
  m_chk (zK o2.2 o2.1 = 4) (
  m_cal (f_X4_putMark o2.1 x1 o2.2) (fun o3 => m_chk (zt o3.2 = zt o2.2 ∧ zu o3.2 = zu o2.2) (
  m_chk (zK o3.2 o2.1 = 4) (
  some ((0, (zI o3.2 4 o2.1)), o3.2)))))
  ) (
  d_X11_addMark_48 o2.2
  ))
  ))))))))
  ) (
  d_X11_addMark_11 S
  )
  )
def d_X11_addMark (x0 : Nat) (x1 : Int32) (S : ZS) : Option ((Nat × Int32) × ZS) := d_X11_addMark_0 x0 x1 S
def d_X11_say_43 (S : ZS) : Option ((Nat × Int32) × ZS) :=
  some ((1, 0), zsQ S)
def d_X11_say_0 (x0 : Nat) (S : ZS) : Option ((Nat × Int32) × ZS) :=
  m_chk (zK S x0 = 11) (
  m_cal (zP S 0 x0) (fun b1 =>
  m_chk (zK S b1 = 6) (
  m_cal (f_X6_size b1 S) (fun o2 => m_chk (zt o2.2 = zt S ∧ zu o2.2 = zu S) (
  m_if ((200 : Int32) < o2.1) (
  d_X11_say_43 o2.2
  ) (
  m_chk (zK o2.2 x0 = 11) (
  m_cal (zP o2.2 0 x0) (fun b3 =>
  m_chk (zK o2.2 b3 = 6) (
  m_cal (f_X6_indexOf b3 (125 : Int32) (0 : Int32) o2.2) (fun o4 => m_chk (zt o4.2 = zt o2.2 ∧ zu o4.2 = zu o2.2) (
  m_if (o4.1 < o2.1) (
  d_X11_say_43 o4.2
  ) (
  m_chk (zK o4.2 x0 = 11) (
  m_cal (zP o4.2 0 x0) (fun b5 =>
  m_chk (zK o4.2 b5 = 6) (
  m_cal (f_X6_indexOf b5 (10 : Int32) (0 : Int32) o4.2) (fun o6 => m_chk (zt o6.2 = zt o4.2 ∧ zu o6.2 = zu o4.2) (
  m_if (o2.1 ≤ o6.1) (
  m_chk (zK o6.2 x0 = 11) (
  m_cal (zP o6.2 7 x0) (fun b7 =>
  m_chk (zK o6.2 x0 = 11) (
  m_chk (zK o6.2 b7 = 1) (
  m_cal (f_X1_at b7 (zI o6.2 8 x0) o6.2) (fun o8 => m_chk (zt o8.2 = zt o6.2 ∧ zu o8.2 = zu o6.2) (
  m_chk (zK o8.2 o8.1 = 4) (
  m_cal (zP o8.2 6 o8.1) (fun b9 =>
  m_chk (zK o8.2 x0 = 11) (
  m_cal (zP o8.2 0 x0) (fun b10 =>
  m_chk (zK o8.2 b9 = 6) (
  m_cal2 (d_X6_copyFrom b9 b10 o8.2) (fun r12 S13 =>
  m_chk (zK S13 x0 = 11) (
  m_cal (zP S13 0 x0) (fun b16 =>
  m_chk (zK S13 b16 = 6) (
  m_cal (f_X6_keep b16 (0 : Int32) S13) (fun o17 => m_chk (zt o17.2 = zt S13 ∧ zu o17.2 = zu S13) (
  some ((0, o2.1), o17.2))))))))))))))))))
  ) (
  d_X11_say_43 o6.2
  ))))))
  ))))))
  ))))))
def d_X11_say (x0 : Nat) (S : ZS) : Option ((Nat × Int32) × ZS) := d_X11_say_0 x0 S
def d_X11_lead_0 (x0 : Nat) (S : ZS) : Option ((Nat × Int32) × ZS) :=
  m_chk (zK S x0 = 11) (
  m_if ((zI S 8 x0) = 0) (
  some ((4, 0), zsQ S)
  ) (
  m_chk (zK S x0 = 11) (
  m_cal (zP S 7 x0) (fun b1 =>
  m_chk (zK S x0 = 11) (
  m_chk (zK S b1 = 1) (
  m_cal (f_X1_goesOn b1 (zI S 8 x0) S) (fun o2 => m_chk (zt o2.2 = zt S ∧ zu o2.2 = zu S) (
  m_if (o2.1 = 0) (
  m_chk (zK o2.2 x0 = 11) (
  m_cal (zP o2.2 7 x0) (fun b3 =>
  m_chk (zK o2.2 x0 = 11) (
  m_chk (zK o2.2 b3 = 1) (
  m_cal (f_X1_mayLead b3 (zI o2.2 8 x0) o2.2) (fun o4 => m_chk (zt o4.2 = zt o2.2 ∧ zu o4.2 = zu o2.2) (
  m_if (o4.1 = 0) (
  some ((4, 0), zsQ o4.2)
  ) (
  m_chk (zK o4.2 x0 = 11) (
  m_cal (zP o4.2 7 x0) (fun b5 =>
  m_chk (zK o4.2 x0 = 11) (
  m_chk (zK o4.2 b5 = 1) (
  m_cal (f_X1_putFirst b5 (zI o4.2 8 x0) o4.2) (fun o6 => m_chk (zt o6.2 = zt o4.2 ∧ zu o6.2 = zu o4.2) (
  m_chk (vp_nar .boolean (1 : Int32) = (1 : Int32)) (
  some ((0, (1 : Int32)), o6.2))))))))
  )))))))
  ) (
  m_chk (vp_nar .boolean (0 : Int32) = (0 : Int32)) (
  some ((0, (0 : Int32)), o2.2))
  )))))))
  ))
def d_X11_lead (x0 : Nat) (S : ZS) : Option ((Nat × Int32) × ZS) := d_X11_lead_0 x0 S
def d_X11_end_9 (S : ZS) : Option ((Nat × Int32) × ZS) :=
  some ((1, 0), zsQ S)
def d_X11_end_0 (x0 : Nat) (x1 : Int32) (S : ZS) : Option ((Nat × Int32) × ZS) :=
  m_if (x1 < 0) (
  d_X11_end_9 S
  ) (
  m_if (x1 < (4 : Int32)) (
  m_chk (zK S x0 = 11) (
  m_cal (zP S 7 x0) (fun b1 =>
  m_chk (zK S b1 = 1) (
  m_bnd (zsI S 6 b1 x1) (fun S2 =>
  some ((0, 0), S2)))))
  ) (
  d_X11_end_9 S
  )
  )
def d_X11_end (x0 : Nat) (x1 : Int32) (S : ZS) : Option ((Nat × Int32) × ZS) := d_X11_end_0 x0 x1 S
def d_X11_tag_19 (S : ZS) : Option ((Nat × Int32) × ZS) :=
  some ((2, 0), zsQ S)
def d_X11_tag_65 (t0 : Int32) (S : ZS) : Option ((Nat × Int32) × ZS) :=
  some ((0, t0), S)
def d_X11_tag_0 (x0 : Nat) (x1 : Int32) (x2 : Int32) (x3 : Int32) (S : ZS) : Option ((Nat × Int32) × ZS) :=
  m_if (x1 < 0) (
  d_X11_tag_19 S
  ) (
  m_chk (zK S x0 = 11) (
  m_cal (zP S 7 x0) (fun b1 =>
  m_chk (zK S b1 = 1) (
  m_if ((zI S 5 b1) ≤ x1) (
  d_X11_tag_19 S
  ) (
  m_if (0 ≤ x3) (
  m_chk (zK S x0 = 11) (
  m_cal (zP S 7 x0) (fun b2 =>
  m_chk (zK S b2 = 1) (
  m_cal2 (d_X1_tagAt b2 x1 S) (fun r4 S5 =>
  m_if (x2 = 0) (
  m_chk (zK S5 r4 = 10) (
  m_cal (zP S5 0 r4) (fun b8 =>
  m_chk (zK S5 b8 = 6) (
  m_cal (f_X6_at b8 x3 S5) (fun o9 => m_chk (zt o9.2 = zt S5 ∧ zu o9.2 = zu S5) (
  d_X11_tag_65 o9.1 o9.2)))))
  ) (
  m_chk (zK S5 r4 = 10) (
  m_cal (zP S5 1 r4) (fun b10 =>
  m_chk (zK S5 b10 = 6) (
  m_cal (f_X6_at b10 x3 S5) (fun o11 => m_chk (zt o11.2 = zt S5 ∧ zu o11.2 = zu S5) (
  d_X11_tag_65 o11.1 o11.2)))))
  )))))
  ) (
  d_X11_tag_19 S
  )
  ))))
  )
def d_X11_tag (x0 : Nat) (x1 : Int32) (x2 : Int32) (x3 : Int32) (S : ZS) : Option ((Nat × Int32) × ZS) := d_X11_tag_0 x0 x1 x2 x3 S
