section CPF
variable {S S' : ZS} {x0 x1 : Nat} {u v : List Int} {o : Int32 × ZS}
theorem rwl_0 {S1 : ZS} (e1 : S1 = zsI S 1 x0 0) : RWL S1 x0 [] ∧ RWF S S1 x0 := by
  have l1 : zI S1 1 x0 = 0 := by rw [e1]; exact zI_self _ _ _ _
  refine ⟨⟨by rw [l1]; rfl, fun i => ?_⟩, fun a _ => ⟨by rw [e1]; rfl, by rw [e1]; rfl⟩, fun a j _ hb => ⟨by rw [e1, zI_b hb], by rw [e1]; rfl⟩, fun j hj => by rw [e1, zI_j hj], fun j _ => by rw [e1]; rfl, fun a _ _ => by rw [e1]; rfl, fun a _ => by rw [e1]; rfl, fun a c _ _ _ => by rw [e1]; rfl⟩
  have z : (0 : Int32).toInt = 0 := rfl
  rw [rw_out (by rw [l1, z]; omega), wA_out (by show i < 0 ∨ (0 : Int) ≤ i; omega)]
/-- a row becomes like another -/
theorem p_copyFrom (hT : ZT S) (hne : x1 ≠ x0) (hrc : rc x0 ≠ 2) (hu : u.length ≤ 150) (hcu : ∀ i, 0 ≤ wA u i ∧ wA u i ≤ 65535) (h1 : RWL S x1 u) (k0 : zK S x0 = 6) (k1 : zK S x1 = 6) (hz : 0 ≤ (zI S 1 x0).toInt) (hf : d_X6_copyFrom x0 x1 S = some o) : ZT o.2 ∧ RWF S o.2 x0 ∧ RWL o.2 x0 u := by
  have hf : d_X6_copyFrom_0 x0 x1 S = some o := hf
  unfold d_X6_copyFrom_0 at hf
  obtain ⟨-, hf⟩ := m_chkE hf
  obtain ⟨S1, e1, hf⟩ := m_bndE hf
  obtain ⟨-, hf⟩ := m_chkE hf
  obtain ⟨⟨r3, S4⟩, h_r3, hf⟩ := m_cal2E hf
  dsimp only at hf
  obtain ⟨g1, g2⟩ := rwl_0 e1
  have T1 : ZT S1 := e1.symm ▸ zt_I0 hT k0 (fun _ => ⟨show (0 : Int) ≤ (0 : Int32).toInt by decide, show (0 : Int32).toInt ≤ _ from hz⟩) (fun e => absurd e.1 (by decide)) (tf_b _)
  have g := ca_2 (S0 := S) hne hrc hu hcu mFuel 0 S1 0 rfl (Nat.zero_le _) T1 g2 g1 (rwf_l g2 k1 hne h1) (by rw [(g2.1 x0 (by rw [k0]; decide)).1]; exact k0) (by rw [(g2.1 x1 (by rw [k1]; decide)).1]; exact k1) h_r3
  cases hf
  exact g
end CPF
