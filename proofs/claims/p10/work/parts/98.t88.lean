theorem and255 (y : Int64) : ∃ r : Nat, r < 256 ∧ y &&& (255 : Int64) = Int64.ofNat r := by
  refine ⟨y.toBitVec.toNat % 256, Nat.mod_lt _ (by decide), ?_⟩
  apply Int64.toBitVec_inj.mp
  apply BitVec.eq_of_toNat_eq
  show (y.toBitVec &&& 255#64).toNat = (BitVec.ofNat 64 (y.toBitVec.toNat % 256)).toNat
  rw [BitVec.toNat_and]
  show y.toBitVec.toNat &&& (2 ^ 8 - 1) = _
  rw [Nat.and_two_pow_sub_one_eq_mod, BitVec.toNat_ofNat]
  exact (Nat.mod_eq_of_lt (by omega)).symm
theorem b255 : ∀ i, i < 64 → 8 ≤ i → (255#64).getLsbD i = false := by decide
theorem sh_bv (v : BitVec 64) {s : Nat} (hs : s ≤ 56) : (v.sshiftRight s) &&& 255#64 = (v >>> s) &&& 255#64 := by
  apply BitVec.eq_of_getLsbD_eq
  intro i hi
  rw [BitVec.getLsbD_and, BitVec.getLsbD_and, BitVec.getLsbD_sshiftRight, BitVec.getLsbD_ushiftRight]
  by_cases h8 : i < 8
  · have h1 : s + i < 64 := by omega
    have h2 : ¬ 64 ≤ i := by omega
    simp [h1, h2]
  · rw [b255 i hi (by omega), Bool.and_false, Bool.and_false]
/-- the byte at a place, as the reference takes it -/
noncomputable def tyR (x : Int64) (x4 : Int32) : Int64 := (x >>> (((8 : Int32) * x4).toInt64 &&& 63)) &&& (255 : Int64)
noncomputable def tyB (x : Int64) (x4 : Int32) : Int32 := (((tyR x x4).toInt32).toUInt32 % 65536).toInt32
theorem ch_al2 : ∀ r : Nat, r < 256 → vp_nar .char ((((Int64.ofNat r).toInt32).toUInt32 % 65536).toInt32) = (((Int64.ofNat r).toInt32).toUInt32 % 65536).toInt32 ∧ ((((Int64.ofNat r).toInt32).toUInt32 % 65536).toInt32).toInt = (r : Int) ∧ (lg_cmp (Int64.ofNat r) 10 = 0 ↔ r = 10) ∧ (lg_cmp (Int64.ofNat r) 32 < 0 ↔ r < 32) ∧ (lg_cmp (Int64.ofNat r) 126 ≤ 0 ↔ r ≤ 126) := by decide +kernel
section TYB
variable {x : Int64} {x4 : Int32} {S : ZS}
theorem ty_b : vp_nar .char (tyB x x4) = tyB x x4 ∧ (0 ≤ (tyB x x4).toInt ∧ (tyB x x4).toInt ≤ 255) ∧ (lg_cmp (tyR x x4) 10 = 0 ↔ (tyB x x4).toInt = 10) ∧ (lg_cmp (tyR x x4) 32 < 0 ↔ (tyB x x4).toInt < 32) ∧ (lg_cmp (tyR x x4) 126 ≤ 0 ↔ (tyB x x4).toInt ≤ 126) := by
  obtain ⟨r, hr, er⟩ := and255 (x >>> (((8 : Int32) * x4).toInt64 &&& 63))
  have er : tyR x x4 = Int64.ofNat r := er
  obtain ⟨a1, a2, a3, a4, a5⟩ := ch_al2 r hr
  unfold tyB
  rw [er, a2]
  refine ⟨a1, ⟨by omega, by omega⟩, a3.trans ⟨fun h => by omega, fun h => by omega⟩, a4.trans ⟨fun h => by omega, fun h => by omega⟩, a5.trans ⟨fun h => by omega, fun h => by omega⟩⟩
theorem i32_8 (h : 0 ≤ x4.toInt ∧ x4.toInt ≤ 7) : x4 = 0 ∨ x4 = 1 ∨ x4 = 2 ∨ x4 = 3 ∨ x4 = 4 ∨ x4 = 5 ∨ x4 = 6 ∨ x4 = 7 := by
  by_cases h6 : x4.toInt ≤ 6
  · rcases i32_7 ⟨h.1, h6⟩ with e | e | e | e | e | e | e
    · exact Or.inl e
    · exact Or.inr (Or.inl e)
    · exact Or.inr (Or.inr (Or.inl e))
    · exact Or.inr (Or.inr (Or.inr (Or.inl e)))
    · exact Or.inr (Or.inr (Or.inr (Or.inr (Or.inl e))))
    · exact Or.inr (Or.inr (Or.inr (Or.inr (Or.inr (Or.inl e)))))
    · exact Or.inr (Or.inr (Or.inr (Or.inr (Or.inr (Or.inr (Or.inl e))))))
  · exact Or.inr (Or.inr (Or.inr (Or.inr (Or.inr (Or.inr (Or.inr (i32_of (show x4.toInt = 7 by omega))))))))
theorem ty_sh (h : 0 ≤ x4.toInt ∧ x4.toInt ≤ 7) : tyR x x4 = ((x.toUInt64 >>> (((8 : Int32) * x4).toInt64.toUInt64 &&& Int64.toUInt64 63)).toInt64) &&& (255 : Int64) := by
  apply Int64.toBitVec_inj.mp
  rcases i32_8 h with e | e | e | e | e | e | e | e <;> subst e
  · exact sh_bv x.toBitVec (s := 0) (by omega)
  · exact sh_bv x.toBitVec (s := 8) (by omega)
  · exact sh_bv x.toBitVec (s := 16) (by omega)
  · exact sh_bv x.toBitVec (s := 24) (by omega)
  · exact sh_bv x.toBitVec (s := 32) (by omega)
  · exact sh_bv x.toBitVec (s := 40) (by omega)
  · exact sh_bv x.toBitVec (s := 48) (by omega)
  · exact sh_bv x.toBitVec (s := 56) (by omega)
/-- the class's byte is the same -/
theorem p_byteOf {o : Int32 × ZS} (h : 0 ≤ x4.toInt ∧ x4.toInt ≤ 7) (hf : f_X11_byteOf x x4 S = some o) : o = (tyB x x4, S) := by
  have hf : f_X11_byteOf_0 x x4 S = some o := hf
  unfold f_X11_byteOf_0 at hf
  obtain ⟨v1, e1, hf⟩ := m_bndE hf
  obtain ⟨v2, e2, hf⟩ := m_bndE hf
  obtain ⟨v3, e3, hf⟩ := m_bndE hf
  obtain ⟨v4, e4, hf⟩ := m_bndE hf
  obtain ⟨v5, e5, hf⟩ := m_bndE hf
  obtain ⟨-, hf⟩ := m_chkE hf
  have q : v5 = tyB x x4 := by
    unfold tyB
    rw [ty_sh h, e5, e4, e3, e2, e1]
  rw [q] at hf
  exact (Option.some.inj hf).symm
end TYB
