/-- the rights, letter by letter -/
def rgS (V : Int → Int) (i : Nat) (z : Int × Int) : Int × Int := if V z.1 = (strL 2).getD i 0 then (z.1 + 1, z.2 + 2 ^ i) else z
def rgN (V : Int → Int) (p : Int) : Nat → Int × Int
  | 0 => (p, 0)
  | i + 1 => rgS V i (rgN V p i)
/-- how many digits follow, at most three, and what they tell -/
def nd3 (V : Int → Int) (p : Int) : Int := if 48 ≤ V p ∧ V p ≤ 57 then (if 48 ≤ V (p + 1) ∧ V (p + 1) ≤ 57 then (if 48 ≤ V (p + 2) ∧ V (p + 2) ≤ 57 then 3 else 2) else 1) else 0
def val3 (V : Int → Int) (p k : Int) : Int := if k = 0 then 0 else if k = 1 then V p - 48 else if k = 2 then 10 * (V p - 48) + (V (p + 1) - 48) else 100 * (V p - 48) + 10 * (V (p + 1) - 48) + (V (p + 2) - 48)
def numC (V : Int → Int) (p : Int) : Int := if nd3 V p = 0 ∨ (1 < nd3 V p ∧ V p = 48) then -1 else val3 V p (nd3 V p)
/-- the men that may stand -/
def NPw (m : Int → Int) : Prop := ∀ s, 0 ≤ s → s < 64 → m s % 8 = 1 → 8 ≤ s ∧ s < 56
def SMn (m : Int → Int) (sd ko : Int) : Prop := NPw m ∧ cnt (fun s => m (s : Int) = 6) 64 = 1 ∧ cnt (fun s => m (s : Int) = 14) 64 = 1 ∧ ¬ attd m ko sd
def SPs (m : Int → Int) (sd ps : Int) : Prop := ps = -1 ∨ (ps / 8 = 5 - 3 * sd ∧ m ps = 0 ∧ m (ps - (8 - 16 * sd)) = 1 + 8 * (1 - sd) ∧ m (ps + (8 - 16 * sd)) = 0 ∧ pat m ps sd)
section PJR
variable {S0 S S' : ZS} {x0 vr bb : Nat} {V : Int → Int} {p : Int} {m : Int → Int} {o : Int32 × ZS} {x1 x2 : Int32} {sd rt ps : Int}
theorem pj_b {j : Nat} {v : Int32} (h : PJ S0 S x0 vr bb V p m) (e : S' = zsI S j bb v) : PJ S0 S' x0 vr bb V p m ∧ zI S' j bb = v ∧ ∀ i, i ≠ j → zI S' i bb = zI S i bb := by
  obtain ⟨-, -, n3⟩ := pj_ne h
  obtain ⟨hF, a1, a2, a3, a4, a5, a6⟩ := h
  exact ⟨⟨pfr_t hF (pfr_b (sb_I e)), a1, a2, a3, by rw [e, zI_b n3]; exact a4, a5, (mB_I e).trans a6⟩, by rw [e]; exact zI_self _ _ _ _, fun i hi => by rw [e, zI_j hi]⟩
theorem p_side (h : PJ S0 S x0 vr bb V p m) (hp : p ≤ 980) (hf : f_X5_readSide x0 bb S = some o) : (∀ j, j ≠ 3 → zI o.2 j bb = zI S j bb) ∧ ((o.1.toInt = 1 ∧ ((V p = 119 ∧ (zI o.2 3 bb).toInt = 0) ∨ (V p = 98 ∧ (zI o.2 3 bb).toInt = 1)) ∧ PJ S0 o.2 x0 vr bb V (p + 1) m) ∨ (o.1.toInt = 0 ∧ V p ≠ 119 ∧ V p ≠ 98)) := by
  have hf : f_X5_readSide_0 x0 bb S = some o := hf
  obtain ⟨P0, k5, k0, pb⟩ := pj_P h
  have hV := pj_V h
  obtain ⟨-, -, -, -, hp4, hp5, -⟩ := id h
  have z1 : (119 : Int32).toInt = 119 := rfl
  have z2 : (98 : Int32).toInt = 98 := rfl
  have fin : ∀ t0 : Int32, (V p = 98 ↔ t0.toInt = 1) → (t0.toInt = 0 ∨ t0.toInt = 1) → f_X5_readSide_22 x0 t0 bb S = some o → (∀ j, j ≠ 3 → zI o.2 j bb = zI S j bb) ∧ ((o.1.toInt = 1 ∧ ((V p = 119 ∧ (zI o.2 3 bb).toInt = 0) ∨ (V p = 98 ∧ (zI o.2 3 bb).toInt = 1)) ∧ PJ S0 o.2 x0 vr bb V (p + 1) m) ∨ (o.1.toInt = 0 ∧ V p ≠ 119 ∧ V p ≠ 98)) := by
    intro t0 ht ht2 hf
    unfold f_X5_readSide_22 at hf
    obtain ⟨-, hf⟩ := m_chkE hf
    obtain ⟨S1, e1, hf⟩ := m_bndE hf
    obtain ⟨J1, i3, i1⟩ := pj_b h e1
    obtain ⟨-, hf⟩ := m_chkE hf
    obtain ⟨⟨r2, S2⟩, h2, hf⟩ := m_calE hf
    dsimp only at hf
    obtain ⟨i2, g2⟩ := p_skipP J1 (by omega) h2
    dsimp only at i2 g2
    rw [z1] at g2
    rcases m_ifE hf with ⟨c2, hf⟩ | ⟨c2, hf⟩
    · replace c2 := ti_eqP (a := r2) (b := (0 : Int32)) c2 rfl (show (0 : Int32).toInt = 0 from rfl)
      obtain ⟨-, hf⟩ := m_chkE hf
      obtain ⟨⟨r3, S3⟩, h3, hf⟩ := m_calE hf
      dsimp only at hf
      rcases g2 with ⟨a, -⟩ | ⟨-, a2, a3⟩
      · omega
      · rw [a3] at h3
        obtain ⟨i4, g3⟩ := p_skipP J1 (by omega) h3
        dsimp only at i4 g3
        rw [z2] at g3
        rcases m_ifE hf with ⟨c3, hf⟩ | ⟨c3, hf⟩
        · replace c3 := ti_eqP (a := r3) (b := (0 : Int32)) c3 rfl (show (0 : Int32).toInt = 0 from rfl)
          unfold f_X5_readSide_48 at hf
          obtain ⟨-, hf⟩ := m_chkE hf
          cases hf
          rcases g3 with ⟨b1, -⟩ | ⟨-, b2, -⟩
          · omega
          · exact ⟨fun j hj => (i4 j).trans (i1 j hj), Or.inr ⟨rfl, a2, b2⟩⟩
        · replace c3 := ti_eqN (a := r3) (b := (0 : Int32)) c3 rfl (show (0 : Int32).toInt = 0 from rfl)
          unfold f_X5_readSide_43 f_X5_readSide_48 at hf
          obtain ⟨-, hf⟩ := m_chkE hf
          cases hf
          rcases g3 with ⟨b1, b2, b3⟩ | ⟨b1, -⟩
          · refine ⟨fun j hj => (i4 j).trans (i1 j hj), Or.inl ⟨rfl, Or.inr ⟨b2, ?_⟩, b3⟩⟩
            rw [i4, i3]
            exact ht.1 b2
          · omega
    · replace c2 := ti_eqN (a := r2) (b := (0 : Int32)) c2 rfl (show (0 : Int32).toInt = 0 from rfl)
      unfold f_X5_readSide_43 f_X5_readSide_48 at hf
      obtain ⟨-, hf⟩ := m_chkE hf
      cases hf
      rcases g2 with ⟨a1, a2, a3⟩ | ⟨a1, -⟩
      · refine ⟨fun j hj => (i2 j).trans (i1 j hj), Or.inl ⟨rfl, Or.inl ⟨a2, ?_⟩, a3⟩⟩
        rw [i2, i3]
        have : ¬ t0.toInt = 1 := fun h => by have := ht.2 h; omega
        omega
      · omega
  unfold f_X5_readSide_0 at hf
  obtain ⟨-, hf⟩ := m_chkE hf
  replace hf := m_calY hf P0
  obtain ⟨-, hf⟩ := m_chkE hf
  obtain ⟨-, hf⟩ := m_chkE hf
  obtain ⟨r2, h_r2, hf⟩ := m_calR hf (fun _ h => ro_X6_at h)
  dsimp only at hf
  have p_r2 := pc_X6_at h_r2
  dsimp only at p_r2
  rw [hV, hp4] at p_r2
  rcases m_ifE hf with ⟨c1, hf⟩ | ⟨c1, hf⟩
  · skip
    replace c1 := ti_eqP (a := r2) (b := (98 : Int32)) c1 rfl (show (98 : Int32).toInt = 98 from rfl)
    exact fin 1 ⟨fun _ => rfl, fun _ => by omega⟩ (Or.inr rfl) hf
  · skip
    replace c1 := ti_eqN (a := r2) (b := (98 : Int32)) c1 rfl (show (98 : Int32).toInt = 98 from rfl)
    exact fin 0 ⟨fun h => by omega, fun h => absurd h (by decide)⟩ (Or.inl rfl) hf
theorem or_add : ∀ i : Nat, i < 4 → ∀ r : Nat, r < 2 ^ i → (nI r ||| ((1 : Int32) <<< (nI i &&& 31))).toInt = (r : Int) + 2 ^ i := by decide +kernel
theorem rgN_b : ∀ i : Nat, i ≤ 4 → p ≤ (rgN V p i).1 ∧ (rgN V p i).1 ≤ p + (i : Int) ∧ 0 ≤ (rgN V p i).2 ∧ (rgN V p i).2 < 2 ^ i
  | 0, _ => ⟨Int.le_refl _, by show p ≤ p + 0; omega, show (0 : Int) ≤ 0 by decide, show (0 : Int) < 2 ^ 0 by decide⟩
  | i + 1, h => by
    obtain ⟨a1, a2, a3, a4⟩ := rgN_b i (by omega)
    show p ≤ (rgS V i (rgN V p i)).1 ∧ (rgS V i (rgN V p i)).1 ≤ p + ((i + 1 : Nat) : Int) ∧ 0 ≤ (rgS V i (rgN V p i)).2 ∧ (rgS V i (rgN V p i)).2 < 2 ^ (i + 1)
    have e2 : (2 : Int) ^ (i + 1) = 2 ^ i + 2 ^ i := by rw [Int.pow_succ]; omega
    have e3 : (0 : Int) < 2 ^ i := Int.pow_pos (by decide)
    unfold rgS
    split
    · exact ⟨by omega, by omega, by omega, by omega⟩
    · exact ⟨by omega, by omega, by omega, by omega⟩
theorem rg_c : ∀ (n : Nat) (x2 : Int32) (S : ZS) (i : Nat), x2.toInt = (i : Int) → i ≤ 4 → PJ S0 S x0 vr bb V (rgN V p i).1 m → (zI S 4 bb).toInt = (rgN V p i).2 → (0 ≤ p ∧ p ≤ 900) → f_X5_readRights_13 n x0 bb x2 S = some o → (∀ j, j ≠ 4 → zI o.2 j bb = zI S j bb) ∧ (o.1.toInt = 0 ∨ o.1.toInt = 1) ∧ (o.1.toInt = 1 ↔ (rgN V p 4).2 ≠ 0) ∧ PJ S0 o.2 x0 vr bb V (rgN V p 4).1 m ∧ (zI o.2 4 bb).toInt = (rgN V p 4).2 := by
  intro n
  induction n with
  | zero => intro x2 S i _ _ _ _ _ hf; cases hf
  | succ n ih =>
    intro x2 S i hx hi hJ h4 hp hf
    have hf : f_X5_readRights_13s (f_X5_readRights_13 n) x0 bb x2 S = some o := hf
    have z0 : (0 : Int32).toInt = 0 := rfl
    obtain ⟨b1, b2, b3, b4⟩ := rgN_b (V := V) (p := p) i hi
    have nxt : ∀ S1, PJ S0 S1 x0 vr bb V (rgN V p (i + 1)).1 m → (zI S1 4 bb).toInt = (rgN V p (i + 1)).2 → (∀ j, j ≠ 4 → zI S1 j bb = zI S j bb) → i < 4 → f_X5_readRights_47 (f_X5_readRights_13 n) x0 bb x2 S1 = some o → (∀ j, j ≠ 4 → zI o.2 j bb = zI S j bb) ∧ (o.1.toInt = 0 ∨ o.1.toInt = 1) ∧ (o.1.toInt = 1 ↔ (rgN V p 4).2 ≠ 0) ∧ PJ S0 o.2 x0 vr bb V (rgN V p 4).1 m ∧ (zI o.2 4 bb).toInt = (rgN V p 4).2 := by
      intro S1 J1 h41 i1 hlt hf
      unfold f_X5_readRights_47 at hf
      obtain ⟨v1, e1, hf⟩ := m_bndE hf
      have t1 : v1.toInt = x2.toInt + 1 := ti_add e1 rfl (show (1 : Int32).toInt = 1 from rfl) (by omega) (by omega)
      obtain ⟨g1, g2⟩ := ih v1 S1 (i + 1) (by omega) (by omega) J1 h41 hp hf
      exact ⟨fun j hj => (g1 j hj).trans (i1 j hj), g2⟩
    have es : rgN V p (i + 1) = rgS V i (rgN V p i) := rfl
    have hl2 : ((strL 2).length : Int) = 4 := rfl
    unfold f_X5_readRights_13s at hf
    obtain ⟨-, hf⟩ := m_chkE hf
    obtain ⟨r1, h_r1, hf⟩ := m_calR hf (fun _ h => ro_J0_length_8abf5 h)
    dsimp only at hf
    have p_r1 := pc_J0_length_8abf5 h_r1
    dsimp only at p_r1
    have q1 := p_r1.2
    rw [hl2] at q1
    rcases m_ifE hf with ⟨c1, hf⟩ | ⟨c1, hf⟩
    · skip
      replace c1 := ti_leP (a := r1) (b := x2) c1 rfl rfl
      have e4 : i = 4 := by omega
      subst e4
      obtain ⟨-, hf⟩ := m_chkE hf
      rcases m_ifE hf with ⟨c2, hf⟩ | ⟨c2, hf⟩
      · skip
        replace c2 := ti_eqP (a := (zI S 4 bb)) (b := (0 : Int32)) c2 rfl (show (0 : Int32).toInt = 0 from rfl)
        unfold f_X5_readRights_65 at hf
        obtain ⟨-, hf⟩ := m_chkE hf
        cases hf
        try dsimp only
        exact ⟨fun _ _ => rfl, Or.inl rfl, ⟨fun h => absurd h (by decide), fun h => by omega⟩, hJ, h4⟩
      · skip
        replace c2 := ti_eqN (a := (zI S 4 bb)) (b := (0 : Int32)) c2 rfl (show (0 : Int32).toInt = 0 from rfl)
        unfold f_X5_readRights_65 at hf
        obtain ⟨-, hf⟩ := m_chkE hf
        cases hf
        try dsimp only
        exact ⟨fun _ _ => rfl, Or.inr rfl, ⟨fun _ => by omega, fun _ => rfl⟩, hJ, h4⟩
    · skip
      replace c1 := ti_leN (a := r1) (b := x2) c1 rfl rfl
      obtain ⟨-, hf⟩ := m_chkE hf
      obtain ⟨r2, h_r2, hf⟩ := m_calR hf (fun _ h => ro_J0_charAt_5068e h)
      dsimp only at hf
      have p_r2 := pc_J0_charAt_5068e h_r2
      dsimp only at p_r2
      have q2 := p_r2.2.2.2
      rw [hx, Int.toNat_natCast] at q2
      obtain ⟨-, hf⟩ := m_chkE hf
      obtain ⟨⟨r3, S3c⟩, h_r3, hf⟩ := m_calE hf
      dsimp only at hf
      obtain ⟨i3, g3⟩ := p_skipP hJ (by omega) h_r3
      dsimp only at i3 g3
      rw [q2] at g3
      rcases m_ifE hf with ⟨c3, hf⟩ | ⟨c3, hf⟩
      · skip
        replace c3 := ti_eqP (a := r3) (b := (0 : Int32)) c3 rfl (show (0 : Int32).toInt = 0 from rfl)
        rcases g3 with ⟨a1, -⟩ | ⟨-, a2, a3⟩
        · omega
        · have er : rgS V i (rgN V p i) = rgN V p i := if_neg a2
          refine nxt S3c ?_ ?_ (fun j _ => i3 j) (by omega) hf
          · rw [es, er, a3]; exact hJ
          · rw [es, er, a3]; exact h4
      · skip
        replace c3 := ti_eqN (a := r3) (b := (0 : Int32)) c3 rfl (show (0 : Int32).toInt = 0 from rfl)
        obtain ⟨-, hf⟩ := m_chkE hf
        obtain ⟨v4, e_v4, hf⟩ := m_bndE hf
        obtain ⟨v5, e_v5, hf⟩ := m_bndE hf
        obtain ⟨-, hf⟩ := m_chkE hf
        obtain ⟨S6, e_S6, hf⟩ := m_bndE hf
        obtain ⟨a1, a2, a3⟩ : r3.toInt = 1 ∧ V (rgN V p i).1 = (strL 2).getD i 0 ∧ PJ S0 S3c x0 vr bb V ((rgN V p i).1 + 1) m := by
          rcases g3 with g | g
          · exact g
          · have := g.1; omega
        obtain ⟨J6, k6, i6⟩ := pj_b a3 e_S6
        have er : rgS V i (rgN V p i) = ((rgN V p i).1 + 1, (rgN V p i).2 + 2 ^ i) := if_pos a2
        have hor : v5.toInt = (rgN V p i).2 + 2 ^ i := by
          have hr : zI S3c 4 bb = nI (rgN V p i).2.toNat := by
            apply Int32.toInt_inj.1
            have hb16 : (rgN V p i).2 < 16 := by
              have : i = 0 ∨ i = 1 ∨ i = 2 ∨ i = 3 := by omega
              rcases this with h | h | h | h <;> subst h <;> (have b5 := b4; simp at b5; omega)
            rw [i3, h4, nI_toInt (by omega)]
            omega
          have hxx : x2 = nI i := by
            apply Int32.toInt_inj.1
            rw [nI_toInt (by omega)]
            exact hx
          rw [e_v5, e_v4, hr, hxx, or_add i (by omega) (rgN V p i).2.toNat (by
            have h9 : (((rgN V p i).2.toNat : Nat) : Int) < ((2 ^ i : Nat) : Int) := by
              rw [Int.toNat_of_nonneg b3, Int.natCast_pow]
              exact b4
            exact Int.ofNat_lt.1 h9), Int.toNat_of_nonneg b3]
        refine nxt S6 ?_ ?_ (fun j hj => (i6 j hj).trans (i3 j)) (by omega) hf
        · rw [es, er]; exact J6
        · rw [es, er, k6]; exact hor
/-- what a text tells of the rights -/
def rgV (V : Int → Int) (p : Int) : Int × Int := if V p = 45 then (p + 1, 0) else rgN V p 4
theorem p_rights (h : PJ S0 S x0 vr bb V p m) (h4 : (zI S 4 bb).toInt = 0) (hp : p ≤ 900) (hf : f_X5_readRights x0 bb S = some o) : (∀ j, j ≠ 4 → zI o.2 j bb = zI S j bb) ∧ (o.1.toInt = 0 ∨ o.1.toInt = 1) ∧ (o.1.toInt = 1 ↔ V p = 45 ∨ (rgV V p).2 ≠ 0) ∧ (o.1.toInt = 1 → PJ S0 o.2 x0 vr bb V (rgV V p).1 m ∧ (zI o.2 4 bb).toInt = (rgV V p).2) := by
  have hf : f_X5_readRights_0 x0 bb S = some o := hf
  have z45 : (45 : Int32).toInt = 45 := rfl
  have z0 : (0 : Int32).toInt = 0 := rfl
  obtain ⟨-, -, -, -, -, hp5, -⟩ := id h
  unfold f_X5_readRights_0 at hf
  obtain ⟨-, hf⟩ := m_chkE hf
  obtain ⟨⟨r1, S1c⟩, h_r1, hf⟩ := m_calE hf
  dsimp only at hf
  obtain ⟨i1, g1⟩ := p_skipP h (by omega) h_r1
  dsimp only at i1 g1
  rw [z45] at g1
  rcases m_ifE hf with ⟨c1, hf⟩ | ⟨c1, hf⟩
  · skip
    replace c1 := ti_eqP (a := r1) (b := (0 : Int32)) c1 rfl (show (0 : Int32).toInt = 0 from rfl)
    rcases g1 with ⟨a1, -⟩ | ⟨-, a2, a3⟩
    · omega
    · rw [a3] at hf
      obtain ⟨k1, k2, k3, k4, k5⟩ := rg_c (p := p) mFuel 0 S 0 rfl (by decide) h (by rw [h4]; rfl) (by omega) hf
      have e : rgV V p = rgN V p 4 := if_neg a2
      rw [e]
      exact ⟨k1, k2, k3.trans ⟨Or.inr, fun g => g.elim (fun g => absurd g a2) id⟩, fun _ => ⟨k4, k5⟩⟩
  · skip
    replace c1 := ti_eqN (a := r1) (b := (0 : Int32)) c1 rfl (show (0 : Int32).toInt = 0 from rfl)
    obtain ⟨-, hf⟩ := m_chkE hf
    cases hf
    try dsimp only
    rcases g1 with ⟨a1, a2, a3⟩ | ⟨a1, -⟩
    · have e : rgV V p = (p + 1, 0) := if_pos a2
      rw [e]
      exact ⟨fun j _ => i1 j, Or.inr rfl, ⟨fun _ => Or.inl a2, fun _ => rfl⟩, fun _ => ⟨a3, by rw [i1]; exact h4⟩⟩
    · omega
/-- and of the passed square -/
def psV (V : Int → Int) (p : Int) : Int × Int := if V p = 45 then (p + 1, -1) else (p + 2, sqO (V p) (V (p + 1)))
theorem p_passed (h : PJ S0 S x0 vr bb V p m) (h5 : (zI S 5 bb).toInt = -1) (hp : p ≤ 900) (hf : f_X5_readPassed x0 bb S = some o) : (∀ j, j ≠ 5 → zI o.2 j bb = zI S j bb) ∧ (o.1.toInt = 0 ∨ o.1.toInt = 1) ∧ (o.1.toInt = 1 ↔ V p = 45 ∨ (psV V p).2 ≠ -1) ∧ (o.1.toInt = 1 → PJ S0 o.2 x0 vr bb V (psV V p).1 m ∧ (zI o.2 5 bb).toInt = (psV V p).2) := by
  have hf : f_X5_readPassed_0 x0 bb S = some o := hf
  have z45 : (45 : Int32).toInt = 45 := rfl
  have z1 : (-1 : Int32).toInt = -1 := rfl
  obtain ⟨P0, k5, k0, pb⟩ := pj_P h
  have hV := pj_V h
  obtain ⟨-, -, -, -, hp4, hp5, -⟩ := id h
  unfold f_X5_readPassed_0 at hf
  obtain ⟨-, hf⟩ := m_chkE hf
  obtain ⟨⟨r1, S1c⟩, h_r1, hf⟩ := m_calE hf
  dsimp only at hf
  obtain ⟨i1, g1⟩ := p_skipP h (by omega) h_r1
  dsimp only at i1 g1
  rw [z45] at g1
  rcases m_ifE hf with ⟨c1, hf⟩ | ⟨c1, hf⟩
  · skip
    replace c1 := ti_eqP (a := r1) (b := (0 : Int32)) c1 rfl (show (0 : Int32).toInt = 0 from rfl)
    obtain ⟨a2, a3⟩ : V p ≠ 45 ∧ S1c = S := by
      rcases g1 with ⟨a1, -⟩ | ⟨-, a2, a3⟩
      · omega
      · exact ⟨a2, a3⟩
    have P1 : zP S1c 0 x0 = some vr := by rw [a3]; exact P0
    have e4 : (zI S1c 1 x0).toInt = p := by rw [a3]; exact hp4
    have eV : rwC S1c vr = V := by rw [a3]; exact hV
    have J1 : PJ S0 S1c x0 vr bb V p m := by rw [a3]; exact h
    have e : psV V p = (p + 2, sqO (V p) (V (p + 1))) := if_neg a2
    obtain ⟨-, hf⟩ := m_chkE hf
    replace hf := m_calY hf P1
    obtain ⟨-, hf⟩ := m_chkE hf
    obtain ⟨-, hf⟩ := m_chkE hf
    obtain ⟨r3, h_r3, hf⟩ := m_calR hf (fun _ h => ro_X6_at h)
    dsimp only at hf
    have p_r3 := pc_X6_at h_r3
    dsimp only at p_r3
    rw [eV, e4] at p_r3
    obtain ⟨-, hf⟩ := m_chkE hf
    replace hf := m_calY hf P1
    obtain ⟨-, hf⟩ := m_chkE hf
    obtain ⟨v5, e_v5, hf⟩ := m_bndE hf
    have t_v5 : v5.toInt = (zI S1c 1 x0).toInt + 1 := ti_add e_v5 rfl (show (1 : Int32).toInt = 1 from rfl) (by omega) (by omega)
    obtain ⟨-, hf⟩ := m_chkE hf
    obtain ⟨r6, h_r6, hf⟩ := m_calR hf (fun _ h => ro_X6_at h)
    dsimp only at hf
    have p_r6 := pc_X6_at h_r6
    dsimp only at p_r6
    rw [eV, t_v5, e4] at p_r6
    obtain ⟨r7, h_r7, hf⟩ := m_calR hf (fun _ h => ro_X11_squareOf h)
    dsimp only at hf
    have p_r7 := pc_X11_squareOf h_r7
    dsimp only at p_r7
    rw [p_r3, p_r6] at p_r7
    obtain ⟨-, hf⟩ := m_chkE hf
    obtain ⟨S8, e_S8, hf⟩ := m_bndE hf
    obtain ⟨J8, q8, i8⟩ := pj_b J1 e_S8
    obtain ⟨-, hf⟩ := m_chkE hf
    obtain ⟨v9, e_v9, hf⟩ := m_bndE hf
    have t9 : v9.toInt = p + 2 := by
      have e48 : (zI S8 1 x0).toInt = p := J8.2.2.2.2.1
      have := ti_add (c := v9) (a := zI S8 1 x0) (b := 2) e_v9 rfl (show (2 : Int32).toInt = 2 from rfl) (by omega) (by omega)
      omega
    obtain ⟨-, hf⟩ := m_chkE hf
    obtain ⟨S10, e_S10, hf⟩ := m_bndE hf
    obtain ⟨J10, i10⟩ := pj_at (q := p + 2) J8 e_S10 t9 (by omega)
    have i5 : (zI S10 5 bb).toInt = sqO (V p) (V (p + 1)) := by rw [i10, q8]; exact p_r7
    obtain ⟨-, hf⟩ := m_chkE hf
    rcases m_ifE hf with ⟨c2, hf⟩ | ⟨c2, hf⟩
    · skip
      replace c2 := ti_eqP (a := (zI S10 5 bb)) (b := (-1 : Int32)) c2 rfl (show (-1 : Int32).toInt = -1 from rfl)
      unfold f_X5_readPassed_65 at hf
      obtain ⟨-, hf⟩ := m_chkE hf
      cases hf
      try dsimp only
      rw [e]
      exact ⟨fun j hj => (i10 j).trans ((i8 j hj).trans (i1 j)), Or.inl rfl, ⟨fun h => absurd h (by decide), fun h => by rcases h with h | h; exact absurd h a2; exact absurd (show sqO (V p) (V (p + 1)) = -1 by omega) h⟩, fun h => absurd h (by decide)⟩
    · skip
      replace c2 := ti_eqN (a := (zI S10 5 bb)) (b := (-1 : Int32)) c2 rfl (show (-1 : Int32).toInt = -1 from rfl)
      unfold f_X5_readPassed_65 at hf
      obtain ⟨-, hf⟩ := m_chkE hf
      cases hf
      try dsimp only
      rw [e]
      exact ⟨fun j hj => (i10 j).trans ((i8 j hj).trans (i1 j)), Or.inr rfl, ⟨fun _ => Or.inr (by show sqO (V p) (V (p + 1)) ≠ -1; omega), fun _ => rfl⟩, fun _ => ⟨J10, i5⟩⟩
  · skip
    replace c1 := ti_eqN (a := r1) (b := (0 : Int32)) c1 rfl (show (0 : Int32).toInt = 0 from rfl)
    obtain ⟨-, hf⟩ := m_chkE hf
    cases hf
    try dsimp only
    rcases g1 with ⟨a1, a2, a3⟩ | ⟨a1, -⟩
    · have e : psV V p = (p + 1, -1) := if_pos a2
      rw [e]
      exact ⟨fun j _ => i1 j, Or.inr rfl, ⟨fun _ => Or.inl a2, fun _ => rfl⟩, fun _ => ⟨a3, by rw [i1]; exact h5⟩⟩
    · omega
theorem nd3_b : 0 ≤ nd3 V p ∧ nd3 V p ≤ 3 := by
  unfold nd3
  split
  · split
    · split <;> omega
    · omega
  · omega
theorem nd3_e {k : Int} (h : 0 ≤ k ∧ k ≤ 3) (hd : ∀ j, 0 ≤ j → j < k → 48 ≤ V (p + j) ∧ V (p + j) ≤ 57) (he : k = 3 ∨ ¬ (48 ≤ V (p + k) ∧ V (p + k) ≤ 57)) : nd3 V p = k := by
  unfold nd3
  have e0 : p + 0 = p := by omega
  have hk : k = 0 ∨ k = 1 ∨ k = 2 ∨ k = 3 := by omega
  rcases hk with e | e | e | e <;> subst e
  · have := he.resolve_left (by decide)
    rw [e0] at this
    rw [if_neg this]
  · have h0 := hd 0 (by decide) (by decide)
    rw [e0] at h0
    rw [if_pos h0, if_neg (he.resolve_left (by decide))]
  · have h0 := hd 0 (by decide) (by decide)
    rw [e0] at h0
    rw [if_pos h0, if_pos (hd 1 (by decide) (by decide)), if_neg (he.resolve_left (by decide))]
  · have h0 := hd 0 (by decide) (by decide)
    rw [e0] at h0
    rw [if_pos h0, if_pos (hd 1 (by decide) (by decide)), if_pos (hd 2 (by decide) (by decide))]
theorem val3_s {k : Int} (h : 0 ≤ k ∧ k < 3) : val3 V p (k + 1) = 10 * val3 V p k + (V (p + k) - 48) := by
  unfold val3
  have e0 : p + 0 = p := by omega
  have hk : k = 0 ∨ k = 1 ∨ k = 2 := by omega
  rcases hk with e | e | e <;> subst e
  · rw [if_neg (by decide), if_pos (by decide), if_pos (by decide), e0]; omega
  · rw [if_neg (by decide), if_neg (by decide), if_pos (by decide), if_neg (by decide), if_pos (by decide)]
  · rw [if_neg (by decide), if_neg (by decide), if_neg (by decide), if_neg (by decide), if_neg (by decide), if_pos (by decide)]; omega
theorem val3_b {k : Int} (h : 0 ≤ k ∧ k ≤ 3) (hd : ∀ j, 0 ≤ j → j < k → 48 ≤ V (p + j) ∧ V (p + j) ≤ 57) : 0 ≤ val3 V p k ∧ val3 V p k ≤ 999 ∧ (k ≤ 2 → val3 V p k ≤ 99) := by
  have e0 : p + 0 = p := by omega
  unfold val3
  have hk : k = 0 ∨ k = 1 ∨ k = 2 ∨ k = 3 := by omega
  rcases hk with e | e | e | e <;> subst e
  · rw [if_pos rfl]; omega
  · have h0 := hd 0 (by decide) (by decide)
    rw [e0] at h0
    rw [if_neg (by decide), if_pos rfl]; omega
  · have h0 := hd 0 (by decide) (by decide)
    have h1 := hd 1 (by decide) (by decide)
    rw [e0] at h0
    rw [if_neg (by decide), if_neg (by decide), if_pos rfl]; omega
  · have h0 := hd 0 (by decide) (by decide)
    have h1 := hd 1 (by decide) (by decide)
    have h2 := hd 2 (by decide) (by decide)
    rw [e0] at h0
    rw [if_neg (by decide), if_neg (by decide), if_neg (by decide)]; omega
theorem nm_c (hp : 0 ≤ p ∧ p ≤ 900) (h1 : x1.toInt = p) : ∀ (n : Nat) (x2 : Int32) (S : ZS) (k : Int), (0 ≤ k ∧ k ≤ 3) → PJ S0 S x0 vr bb V (p + k) m → (∀ j, 0 ≤ j → j < k → 48 ≤ V (p + j) ∧ V (p + j) ≤ 57) → x2.toInt = val3 V p k → f_X5_readNumber_7 n x0 x1 x2 S = some o → (∀ j, zI o.2 j bb = zI S j bb) ∧ o.1.toInt = numC V p ∧ PJ S0 o.2 x0 vr bb V (p + nd3 V p) m := by
  intro n
  induction n with
  | zero => intro x2 S k _ _ _ _ hf; cases hf
  | succ n ih =>
    intro x2 S k hk hJ hd hx hf
    have hf : f_X5_readNumber_7s (f_X5_readNumber_7 n) x0 x1 x2 S = some o := hf
    obtain ⟨P0, k5, k0, pb⟩ := pj_P hJ
    have hV := pj_V hJ
    obtain ⟨-, -, -, ⟨-, hVb, -⟩, hp4, hp5, -⟩ := id hJ
    obtain ⟨vb1, vb2, vb3⟩ := val3_b hk hd
    have z0 : (0 : Int32).toInt = 0 := rfl
    have z1 : (-1 : Int32).toInt = -1 := rfl
    have fin : nd3 V p = k → f_X5_readNumber_67 x0 x1 x2 S = some o → (∀ j, zI o.2 j bb = zI S j bb) ∧ o.1.toInt = numC V p ∧ PJ S0 o.2 x0 vr bb V (p + nd3 V p) m := by
      intro en hf
      have eo : ∀ y : Int32, y.toInt = numC V p → (∀ j, zI S j bb = zI S j bb) ∧ y.toInt = numC V p ∧ PJ S0 S x0 vr bb V (p + nd3 V p) m := fun y hy => ⟨fun _ => rfl, hy, by rw [en]; exact hJ⟩
      have bad : (k = 0 ∨ (1 < k ∧ V p = 48)) → numC V p = -1 := fun h => by unfold numC; rw [en, if_pos h]
      have good : ¬ (k = 0 ∨ (1 < k ∧ V p = 48)) → numC V p = val3 V p k := fun h => by unfold numC; rw [en, if_neg h]
      unfold f_X5_readNumber_67 at hf
      obtain ⟨-, hf⟩ := m_chkE hf
      replace hf := m_calY hf P0
      obtain ⟨-, hf⟩ := m_chkE hf
      obtain ⟨r2, h2, hf⟩ := m_calR hf (fun _ h => ro_X6_at h)
      have p2 := pc_X6_at h2
      dsimp only at hf p2
      rw [hV, h1] at p2
      have last : ∀ t0 : Int32, (t0.toInt = 0 ∨ t0.toInt = 1) → (t0.toInt = 1 ↔ V p = 48 ∧ 1 < k) → f_X5_readNumber_95 x0 x1 x2 t0 S = some o → (∀ j, zI o.2 j bb = zI S j bb) ∧ o.1.toInt = numC V p ∧ PJ S0 o.2 x0 vr bb V (p + nd3 V p) m := by
        intro t0 ht ht2 hf
        unfold f_X5_readNumber_95 at hf
        obtain ⟨-, hf⟩ := m_chkE hf
        rcases m_ifE hf with ⟨c3, hf⟩ | ⟨c3, hf⟩
        · replace c3 := ti_eqP (a := zI S 1 x0) (b := x1) c3 rfl rfl
          unfold f_X5_readNumber_108 f_X5_readNumber_113 at hf
          cases hf
          exact eo _ (by rw [bad (Or.inl (by omega))]; rfl)
        · replace c3 := ti_eqN (a := zI S 1 x0) (b := x1) c3 rfl rfl
          rcases m_ifE hf with ⟨c4, hf⟩ | ⟨c4, hf⟩
          · replace c4 := ti_eqP (a := t0) (b := (0 : Int32)) c4 rfl rfl
            unfold f_X5_readNumber_113 at hf
            cases hf
            have ng : ¬ (k = 0 ∨ (1 < k ∧ V p = 48)) := fun g => by
              rcases g with g | g
              · omega
              · have := ht2.2 ⟨g.2, g.1⟩; omega
            exact eo _ (by rw [good ng]; exact hx)
          · replace c4 := ti_eqN (a := t0) (b := (0 : Int32)) c4 rfl rfl
            unfold f_X5_readNumber_108 f_X5_readNumber_113 at hf
            cases hf
            have := ht2.1 (by omega)
            exact eo _ (by rw [bad (Or.inr ⟨this.2, this.1⟩)]; rfl)
      rcases m_ifE hf with ⟨c2, hf⟩ | ⟨c2, hf⟩
      · replace c2 := ti_eqP (a := r2) (b := (48 : Int32)) c2 rfl (show (48 : Int32).toInt = 48 from rfl)
        obtain ⟨-, hf⟩ := m_chkE hf
        obtain ⟨v3, e3, hf⟩ := m_bndE hf
        have t3 : v3.toInt = x1.toInt + 1 := ti_add e3 rfl (show (1 : Int32).toInt = 1 from rfl) (by omega) (by omega)
        rcases m_ifE hf with ⟨c3, hf⟩ | ⟨c3, hf⟩
        · replace c3 := ti_leP (a := zI S 1 x0) (b := v3) c3 rfl rfl
          unfold f_X5_readNumber_94 at hf
          exact last 0 (Or.inl rfl) ⟨fun h => absurd h (by decide), fun h => by omega⟩ hf
        · replace c3 := ti_leN (a := zI S 1 x0) (b := v3) c3 rfl rfl
          exact last 1 (Or.inr rfl) ⟨fun _ => ⟨by omega, by omega⟩, fun _ => rfl⟩ hf
      · replace c2 := ti_eqN (a := r2) (b := (48 : Int32)) c2 rfl (show (48 : Int32).toInt = 48 from rfl)
        unfold f_X5_readNumber_94 at hf
        exact last 0 (Or.inl rfl) ⟨fun h => absurd h (by decide), fun h => by omega⟩ hf
    unfold f_X5_readNumber_7s at hf
    obtain ⟨-, hf⟩ := m_chkE hf
    obtain ⟨v1, e_v1, hf⟩ := m_bndE hf
    have t_v1 : v1.toInt = x1.toInt + 3 := ti_add e_v1 rfl (show (3 : Int32).toInt = 3 from rfl) (by omega) (by omega)
    rcases m_ifE hf with ⟨c1, hf⟩ | ⟨c1, hf⟩
    · skip
      replace c1 := ti_leP (a := v1) (b := (zI S 1 x0)) c1 rfl rfl
      exact fin (nd3_e hk hd (Or.inl (by omega))) hf
    · skip
      replace c1 := ti_leN (a := v1) (b := (zI S 1 x0)) c1 rfl rfl
      obtain ⟨-, hf⟩ := m_chkE hf
      replace hf := m_calY hf P0
      obtain ⟨-, hf⟩ := m_chkE hf
      obtain ⟨-, hf⟩ := m_chkE hf
      obtain ⟨r3, h_r3, hf⟩ := m_calR hf (fun _ h => ro_X6_at h)
      dsimp only at hf
      have p_r3 := pc_X6_at h_r3
      dsimp only at p_r3
      rw [hV, hp4] at p_r3
      have b3 := hVb (p + k)
      obtain ⟨r4, h_r4, hf⟩ := m_calR hf (fun _ h => ro_X11_isDigit h)
      dsimp only at hf
      have p_r4 := pc_X11_isDigit h_r4
      dsimp only at p_r4
      unfold isD at p_r4
      rw [p_r3] at p_r4
      rcases m_ifE hf with ⟨c2, hf⟩ | ⟨c2, hf⟩
      · skip
        replace c2 := ti_eqP (a := r4) (b := (0 : Int32)) c2 rfl (show (0 : Int32).toInt = 0 from rfl)
        exact fin (nd3_e hk hd (Or.inr (fun h => by have := p_r4.2.2 h; omega))) hf
      · skip
        replace c2 := ti_eqN (a := r4) (b := (0 : Int32)) c2 rfl (show (0 : Int32).toInt = 0 from rfl)
        obtain ⟨v5, e_v5, hf⟩ := m_bndE hf
        have t_v5 : v5.toInt = 10 * x2.toInt := ti_mul e_v5 (show (10 : Int32).toInt = 10 from rfl) rfl (by omega) (by omega)
        obtain ⟨-, hf⟩ := m_chkE hf
        replace hf := m_calY hf P0
        obtain ⟨-, hf⟩ := m_chkE hf
        obtain ⟨-, hf⟩ := m_chkE hf
        obtain ⟨r7, h_r7, hf⟩ := m_calR hf (fun _ h => ro_X6_at h)
        dsimp only at hf
        have p_r7 := pc_X6_at h_r7
        dsimp only at p_r7
        rw [hV, hp4] at p_r7
        have dk := p_r4.2.1 (by omega)
        obtain ⟨v8, e_v8, hf⟩ := m_bndE hf
        have t_v8 : v8.toInt = v5.toInt + r7.toInt := ti_add e_v8 rfl rfl (by omega) (by omega)
        obtain ⟨v9, e_v9, hf⟩ := m_bndE hf
        have t_v9 : v9.toInt = v8.toInt - 48 := ti_sub e_v9 rfl (show (48 : Int32).toInt = 48 from rfl) (by omega) (by omega)
        obtain ⟨-, hf⟩ := m_chkE hf
        obtain ⟨v10, e_v10, hf⟩ := m_bndE hf
        have t_v10 : v10.toInt = (zI S 1 x0).toInt + 1 := ti_add e_v10 rfl (show (1 : Int32).toInt = 1 from rfl) (by omega) (by omega)
        obtain ⟨-, hf⟩ := m_chkE hf
        obtain ⟨S11, e_S11, hf⟩ := m_bndE hf
        obtain ⟨J11, i11⟩ := pj_at (q := p + (k + 1)) hJ e_S11 (by omega) (by omega)
        obtain ⟨g1, g2, g3⟩ := ih v9 S11 (k + 1) (by omega) J11 (fun j j1 j2 => by
          by_cases e : j = k
          · rw [e]; exact dk
          · exact hd j j1 (by omega)) (by rw [val3_s (by omega)]; omega) hf
        exact ⟨fun j => (g1 j).trans (i11 j), g2, g3⟩
theorem p_number (h : PJ S0 S x0 vr bb V p m) (hp : p ≤ 900) (hf : f_X5_readNumber x0 S = some o) : (∀ j, zI o.2 j bb = zI S j bb) ∧ o.1.toInt = numC V p ∧ PJ S0 o.2 x0 vr bb V (p + nd3 V p) m := by
  have hf : f_X5_readNumber_0 x0 S = some o := hf
  obtain ⟨-, -, -, -, hp4, hp5, -⟩ := id h
  unfold f_X5_readNumber_0 at hf
  obtain ⟨-, hf⟩ := m_chkE hf
  have e : p + 0 = p := by omega
  exact nm_c (by omega) hp4 mFuel 0 S 0 (by decide) (by rw [e]; exact h) (fun j a b => by omega) rfl hf
end PJR
