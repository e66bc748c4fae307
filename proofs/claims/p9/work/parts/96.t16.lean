/-- the characters of a row of the class, and of the reference's text -/
def rwC (S : ZS) (a : Nat) (i : Int) : Int := if 0 ≤ i ∧ i < (zI S 1 a).toInt then (match zP S 0 a with | some c => (zA S c i.toNat).toInt | none => 0) else 0
def txR (I : Nat → Int32) (A : Nat → Nat → Int32) (i : Int) : Int := if 0 ≤ i ∧ i < (I 1).toInt then (A 2 i.toNat).toInt else 0
theorem rw_at {S : ZS} {a c : Nat} {x v : Int32} (p : zP S 0 a = some c) (e : v = zA S c x.toNatClampNeg) (h1 : 0 ≤ x.toInt) (h2 : x.toInt < (zI S 1 a).toInt) : v.toInt = rwC S a x.toInt := by
  unfold rwC
  rw [if_pos ⟨h1, h2⟩, p, e]
  rfl
theorem rw_out {S : ZS} {a : Nat} {i : Int} (h : i < 0 ∨ (zI S 1 a).toInt ≤ i) : rwC S a i = 0 := by
  unfold rwC
  rw [if_neg (by omega)]
theorem tx_at {I : Nat → Int32} {A : Nat → Nat → Int32} {x v : Int32} (e : v = A 2 x.toNatClampNeg) (h1 : 0 ≤ x.toInt) (h2 : x.toInt < (I 1).toInt) : v.toInt = txR I A x.toInt := by
  unfold txR
  rw [if_pos ⟨h1, h2⟩, e]
  rfl
theorem tx_out {I : Nat → Int32} {A : Nat → Nat → Int32} {i : Int} (h : i < 0 ∨ (I 1).toInt ≤ i) : txR I A i = 0 := by
  unfold txR
  rw [if_neg (by omega)]
section PCC
variable {S : ZS} {x0 : Nat} {x1 x2 : Int32}
theorem pc_X6_size {o : Int32 × ZS} (hf : f_X6_size x0 S = some o) : o.1 = zI S 1 x0 := by
  have hf : f_X6_size_0 x0 S = some o := hf
  unfold f_X6_size_0 at hf
  obtain ⟨-, hf⟩ := m_chkE hf
  cases hf
  try dsimp only
  try rfl
theorem pc_X6_at {o : Int32 × ZS} (hf : f_X6_at x0 x1 S = some o) : o.1.toInt = rwC S x0 x1.toInt := by
  have hf : f_X6_at_0 x0 x1 S = some o := hf
  unfold f_X6_at_0 at hf
  rcases m_ifE hf with ⟨c1, hf⟩ | ⟨c1, hf⟩
  · skip
    replace c1 := ti_ltP (a := x1) (b := (0 : Int32)) c1 rfl (show (0 : Int32).toInt = 0 from rfl)
    unfold f_X6_at_21 at hf
    unfold f_X6_at_22 at hf
    obtain ⟨-, hf⟩ := m_chkE hf
    cases hf
    try dsimp only
    exact (rw_out (by omega)).symm
  · skip
    replace c1 := ti_ltN (a := x1) (b := (0 : Int32)) c1 rfl (show (0 : Int32).toInt = 0 from rfl)
    obtain ⟨-, hf⟩ := m_chkE hf
    rcases m_ifE hf with ⟨c2, hf⟩ | ⟨c2, hf⟩
    · skip
      replace c2 := ti_leP (a := (zI S 1 x0)) (b := x1) c2 rfl rfl
      unfold f_X6_at_21 at hf
      unfold f_X6_at_22 at hf
      obtain ⟨-, hf⟩ := m_chkE hf
      cases hf
      try dsimp only
      exact (rw_out (by omega)).symm
    · skip
      replace c2 := ti_leN (a := (zI S 1 x0)) (b := x1) c2 rfl rfl
      obtain ⟨-, hf⟩ := m_chkE hf
      obtain ⟨b1, h_b1, hf⟩ := m_calE hf
      obtain ⟨-, hf⟩ := m_chkE hf
      obtain ⟨-, hf⟩ := m_chkE hf
      obtain ⟨v2, e_v2, hf⟩ := m_bndE hf
      unfold f_X6_at_22 at hf
      obtain ⟨-, hf⟩ := m_chkE hf
      cases hf
      try dsimp only
      exact rw_at h_b1 e_v2 (by omega) (by omega)
def isL (c : Int) : Prop := (97 ≤ c ∧ c ≤ 122) ∨ (65 ≤ c ∧ c ≤ 90)
def isD (c : Int) : Prop := 48 ≤ c ∧ c ≤ 57
theorem pc_X11_isLetter {x0 : Int32} {o : Int32 × ZS} (hf : f_X11_isLetter x0 S = some o) : (o.1.toInt = 0 ∨ o.1.toInt = 1) ∧ (o.1.toInt = 1 ↔ isL x0.toInt) := by
  have hf : f_X11_isLetter_0 x0 S = some o := hf
  have z0 : (0 : Int32).toInt = 0 := rfl
  have z1 : (1 : Int32).toInt = 1 := rfl
  unfold f_X11_isLetter_0 at hf
  rcases m_ifE hf with ⟨c1, hf⟩ | ⟨c1, hf⟩
  · skip
    replace c1 := ti_ltP (a := x0) (b := (97 : Int32)) c1 rfl (show (97 : Int32).toInt = 97 from rfl)
    unfold f_X11_isLetter_12 at hf
    rcases m_ifE hf with ⟨c2, hf⟩ | ⟨c2, hf⟩
    · skip
      replace c2 := ti_ltP (a := x0) (b := (65 : Int32)) c2 rfl (show (65 : Int32).toInt = 65 from rfl)
      unfold f_X11_isLetter_28 at hf
      unfold f_X11_isLetter_29 at hf
      obtain ⟨-, hf⟩ := m_chkE hf
      cases hf
      try dsimp only
      unfold isL
      omega
    · skip
      replace c2 := ti_ltN (a := x0) (b := (65 : Int32)) c2 rfl (show (65 : Int32).toInt = 65 from rfl)
      rcases m_ifE hf with ⟨c3, hf⟩ | ⟨c3, hf⟩
      · skip
        replace c3 := ti_ltP (a := (90 : Int32)) (b := x0) c3 (show (90 : Int32).toInt = 90 from rfl) rfl
        unfold f_X11_isLetter_28 at hf
        unfold f_X11_isLetter_29 at hf
        obtain ⟨-, hf⟩ := m_chkE hf
        cases hf
        try dsimp only
        unfold isL
        omega
      · skip
        replace c3 := ti_ltN (a := (90 : Int32)) (b := x0) c3 (show (90 : Int32).toInt = 90 from rfl) rfl
        unfold f_X11_isLetter_24 at hf
        unfold f_X11_isLetter_29 at hf
        obtain ⟨-, hf⟩ := m_chkE hf
        cases hf
        try dsimp only
        unfold isL
        omega
  · skip
    replace c1 := ti_ltN (a := x0) (b := (97 : Int32)) c1 rfl (show (97 : Int32).toInt = 97 from rfl)
    rcases m_ifE hf with ⟨c4, hf⟩ | ⟨c4, hf⟩
    · skip
      replace c4 := ti_leP (a := x0) (b := (122 : Int32)) c4 rfl (show (122 : Int32).toInt = 122 from rfl)
      unfold f_X11_isLetter_24 at hf
      unfold f_X11_isLetter_29 at hf
      obtain ⟨-, hf⟩ := m_chkE hf
      cases hf
      try dsimp only
      unfold isL
      omega
    · skip
      replace c4 := ti_leN (a := x0) (b := (122 : Int32)) c4 rfl (show (122 : Int32).toInt = 122 from rfl)
      unfold f_X11_isLetter_12 at hf
      rcases m_ifE hf with ⟨c5, hf⟩ | ⟨c5, hf⟩
      · skip
        replace c5 := ti_ltP (a := x0) (b := (65 : Int32)) c5 rfl (show (65 : Int32).toInt = 65 from rfl)
        unfold f_X11_isLetter_28 at hf
        unfold f_X11_isLetter_29 at hf
        obtain ⟨-, hf⟩ := m_chkE hf
        cases hf
        try dsimp only
        unfold isL
        omega
      · skip
        replace c5 := ti_ltN (a := x0) (b := (65 : Int32)) c5 rfl (show (65 : Int32).toInt = 65 from rfl)
        rcases m_ifE hf with ⟨c6, hf⟩ | ⟨c6, hf⟩
        · skip
          replace c6 := ti_ltP (a := (90 : Int32)) (b := x0) c6 (show (90 : Int32).toInt = 90 from rfl) rfl
          unfold f_X11_isLetter_28 at hf
          unfold f_X11_isLetter_29 at hf
          obtain ⟨-, hf⟩ := m_chkE hf
          cases hf
          try dsimp only
          unfold isL
          omega
        · skip
          replace c6 := ti_ltN (a := (90 : Int32)) (b := x0) c6 (show (90 : Int32).toInt = 90 from rfl) rfl
          unfold f_X11_isLetter_24 at hf
          unfold f_X11_isLetter_29 at hf
          obtain ⟨-, hf⟩ := m_chkE hf
          cases hf
          try dsimp only
          unfold isL
          omega
theorem pc_X11_isDigit {x0 : Int32} {o : Int32 × ZS} (hf : f_X11_isDigit x0 S = some o) : (o.1.toInt = 0 ∨ o.1.toInt = 1) ∧ (o.1.toInt = 1 ↔ isD x0.toInt) := by
  have hf : f_X11_isDigit_0 x0 S = some o := hf
  have z0 : (0 : Int32).toInt = 0 := rfl
  have z1 : (1 : Int32).toInt = 1 := rfl
  unfold f_X11_isDigit_0 at hf
  rcases m_ifE hf with ⟨c1, hf⟩ | ⟨c1, hf⟩
  · skip
    replace c1 := ti_ltP (a := x0) (b := (48 : Int32)) c1 rfl (show (48 : Int32).toInt = 48 from rfl)
    unfold f_X11_isDigit_16 at hf
    unfold f_X11_isDigit_17 at hf
    obtain ⟨-, hf⟩ := m_chkE hf
    cases hf
    try dsimp only
    unfold isD
    omega
  · skip
    replace c1 := ti_ltN (a := x0) (b := (48 : Int32)) c1 rfl (show (48 : Int32).toInt = 48 from rfl)
    rcases m_ifE hf with ⟨c2, hf⟩ | ⟨c2, hf⟩
    · skip
      replace c2 := ti_ltP (a := (57 : Int32)) (b := x0) c2 (show (57 : Int32).toInt = 57 from rfl) rfl
      unfold f_X11_isDigit_16 at hf
      unfold f_X11_isDigit_17 at hf
      obtain ⟨-, hf⟩ := m_chkE hf
      cases hf
      try dsimp only
      unfold isD
      omega
    · skip
      replace c2 := ti_ltN (a := (57 : Int32)) (b := x0) c2 (show (57 : Int32).toInt = 57 from rfl) rfl
      unfold f_X11_isDigit_17 at hf
      obtain ⟨-, hf⟩ := m_chkE hf
      cases hf
      try dsimp only
      unfold isD
      omega
theorem pc_X11_isFile {x0 : Int32} {o : Int32 × ZS} (hf : f_X11_isFile x0 S = some o) : (o.1.toInt = 0 ∨ o.1.toInt = 1) ∧ (o.1.toInt = 1 ↔ 97 ≤ x0.toInt ∧ x0.toInt ≤ 104) := by
  have hf : f_X11_isFile_0 x0 S = some o := hf
  have z0 : (0 : Int32).toInt = 0 := rfl
  have z1 : (1 : Int32).toInt = 1 := rfl
  unfold f_X11_isFile_0 at hf
  rcases m_ifE hf with ⟨c1, hf⟩ | ⟨c1, hf⟩
  · skip
    replace c1 := ti_ltP (a := x0) (b := (97 : Int32)) c1 rfl (show (97 : Int32).toInt = 97 from rfl)
    unfold f_X11_isFile_16 at hf
    unfold f_X11_isFile_17 at hf
    obtain ⟨-, hf⟩ := m_chkE hf
    cases hf
    try dsimp only
    omega
  · skip
    replace c1 := ti_ltN (a := x0) (b := (97 : Int32)) c1 rfl (show (97 : Int32).toInt = 97 from rfl)
    rcases m_ifE hf with ⟨c2, hf⟩ | ⟨c2, hf⟩
    · skip
      replace c2 := ti_ltP (a := (104 : Int32)) (b := x0) c2 (show (104 : Int32).toInt = 104 from rfl) rfl
      unfold f_X11_isFile_16 at hf
      unfold f_X11_isFile_17 at hf
      obtain ⟨-, hf⟩ := m_chkE hf
      cases hf
      try dsimp only
      omega
    · skip
      replace c2 := ti_ltN (a := (104 : Int32)) (b := x0) c2 (show (104 : Int32).toInt = 104 from rfl) rfl
      unfold f_X11_isFile_17 at hf
      obtain ⟨-, hf⟩ := m_chkE hf
      cases hf
      try dsimp only
      omega
theorem pc_X11_isRank {x0 : Int32} {o : Int32 × ZS} (hf : f_X11_isRank x0 S = some o) : (o.1.toInt = 0 ∨ o.1.toInt = 1) ∧ (o.1.toInt = 1 ↔ 49 ≤ x0.toInt ∧ x0.toInt ≤ 56) := by
  have hf : f_X11_isRank_0 x0 S = some o := hf
  have z0 : (0 : Int32).toInt = 0 := rfl
  have z1 : (1 : Int32).toInt = 1 := rfl
  unfold f_X11_isRank_0 at hf
  rcases m_ifE hf with ⟨c1, hf⟩ | ⟨c1, hf⟩
  · skip
    replace c1 := ti_ltP (a := x0) (b := (49 : Int32)) c1 rfl (show (49 : Int32).toInt = 49 from rfl)
    unfold f_X11_isRank_16 at hf
    unfold f_X11_isRank_17 at hf
    obtain ⟨-, hf⟩ := m_chkE hf
    cases hf
    try dsimp only
    omega
  · skip
    replace c1 := ti_ltN (a := x0) (b := (49 : Int32)) c1 rfl (show (49 : Int32).toInt = 49 from rfl)
    rcases m_ifE hf with ⟨c2, hf⟩ | ⟨c2, hf⟩
    · skip
      replace c2 := ti_ltP (a := (56 : Int32)) (b := x0) c2 (show (56 : Int32).toInt = 56 from rfl) rfl
      unfold f_X11_isRank_16 at hf
      unfold f_X11_isRank_17 at hf
      obtain ⟨-, hf⟩ := m_chkE hf
      cases hf
      try dsimp only
      omega
    · skip
      replace c2 := ti_ltN (a := (56 : Int32)) (b := x0) c2 (show (56 : Int32).toInt = 56 from rfl) rfl
      unfold f_X11_isRank_17 at hf
      obtain ⟨-, hf⟩ := m_chkE hf
      cases hf
      try dsimp only
      omega
/-- the square that two characters tell -/
def sqO (f r : Int) : Int := if 97 ≤ f ∧ f ≤ 104 ∧ 49 ≤ r ∧ r ≤ 56 then f - 97 + 8 * (r - 49) else -1
theorem pc_X11_squareOf {x0 x1 : Int32} {o : Int32 × ZS} (hf : f_X11_squareOf x0 x1 S = some o) : o.1.toInt = sqO x0.toInt x1.toInt := by
  have hf : f_X11_squareOf_0 x0 x1 S = some o := hf
  have z1 : (-1 : Int32).toInt = -1 := rfl
  unfold sqO
  unfold f_X11_squareOf_0 at hf
  obtain ⟨r1, h_r1, hf⟩ := m_calR hf (fun _ h => ro_X11_isFile h)
  dsimp only at hf
  have p_r1 := pc_X11_isFile h_r1
  dsimp only at p_r1
  rcases m_ifE hf with ⟨c1, hf⟩ | ⟨c1, hf⟩
  · skip
    replace c1 := ti_eqP (a := r1) (b := (0 : Int32)) c1 rfl (show (0 : Int32).toInt = 0 from rfl)
    unfold f_X11_squareOf_29 at hf
    unfold f_X11_squareOf_30 at hf
    cases hf
    try dsimp only
    rw [if_neg (by omega)]; exact z1
  · skip
    replace c1 := ti_eqN (a := r1) (b := (0 : Int32)) c1 rfl (show (0 : Int32).toInt = 0 from rfl)
    obtain ⟨r2, h_r2, hf⟩ := m_calR hf (fun _ h => ro_X11_isRank h)
    dsimp only at hf
    have p_r2 := pc_X11_isRank h_r2
    dsimp only at p_r2
    rcases m_ifE hf with ⟨c2, hf⟩ | ⟨c2, hf⟩
    · skip
      replace c2 := ti_eqP (a := r2) (b := (0 : Int32)) c2 rfl (show (0 : Int32).toInt = 0 from rfl)
      unfold f_X11_squareOf_29 at hf
      unfold f_X11_squareOf_30 at hf
      cases hf
      try dsimp only
      rw [if_neg (by omega)]; exact z1
    · skip
      replace c2 := ti_eqN (a := r2) (b := (0 : Int32)) c2 rfl (show (0 : Int32).toInt = 0 from rfl)
      have g1 := p_r1.2.1 (by omega)
      have g2 := p_r2.2.1 (by omega)
      obtain ⟨v3, e_v3, hf⟩ := m_bndE hf
      have t_v3 : v3.toInt = x0.toInt - 97 := ti_sub e_v3 rfl (show (97 : Int32).toInt = 97 from rfl) (by omega) (by omega)
      obtain ⟨v4, e_v4, hf⟩ := m_bndE hf
      have t_v4 : v4.toInt = x1.toInt - 49 := ti_sub e_v4 rfl (show (49 : Int32).toInt = 49 from rfl) (by omega) (by omega)
      obtain ⟨v5, e_v5, hf⟩ := m_bndE hf
      have t_v5 : v5.toInt = 8 * v4.toInt := ti_mul e_v5 (show (8 : Int32).toInt = 8 from rfl) rfl (by omega) (by omega)
      obtain ⟨v6, e_v6, hf⟩ := m_bndE hf
      have t_v6 : v6.toInt = v3.toInt + v5.toInt := ti_add e_v6 rfl rfl (by omega) (by omega)
      unfold f_X11_squareOf_30 at hf
      cases hf
      try dsimp only
      rw [if_pos (by omega)]; omega
theorem pc_X2_isSign {x0 : Int32} {o : Int32 × ZS} (hf : f_X2_isSign x0 S = some o) : (o.1.toInt = 0 ∨ o.1.toInt = 1) ∧ (o.1.toInt = 1 ↔ isL x0.toInt ∨ isD x0.toInt ∨ x0.toInt = 61 ∨ x0.toInt = 45 ∨ x0.toInt = 43 ∨ x0.toInt = 35) := by
  have hf : f_X2_isSign_0 x0 S = some o := hf
  have z0 : (0 : Int32).toInt = 0 := rfl
  have z1 : (1 : Int32).toInt = 1 := rfl
  unfold f_X2_isSign_0 at hf
  obtain ⟨r1, h_r1, hf⟩ := m_calR hf (fun _ h => ro_X11_isLetter h)
  dsimp only at hf
  have p_r1 := pc_X11_isLetter h_r1
  dsimp only at p_r1
  rcases m_ifE hf with ⟨c1, hf⟩ | ⟨c1, hf⟩
  · skip
    replace c1 := ti_eqP (a := r1) (b := (0 : Int32)) c1 rfl (show (0 : Int32).toInt = 0 from rfl)
    obtain ⟨r2, h_r2, hf⟩ := m_calR hf (fun _ h => ro_X11_isDigit h)
    dsimp only at hf
    have p_r2 := pc_X11_isDigit h_r2
    dsimp only at p_r2
    rcases m_ifE hf with ⟨c2, hf⟩ | ⟨c2, hf⟩
    · skip
      replace c2 := ti_eqP (a := r2) (b := (0 : Int32)) c2 rfl (show (0 : Int32).toInt = 0 from rfl)
      rcases m_ifE hf with ⟨c3, hf⟩ | ⟨c3, hf⟩
      · skip
        replace c3 := ti_eqP (a := x0) (b := (61 : Int32)) c3 rfl (show (61 : Int32).toInt = 61 from rfl)
        unfold f_X2_isSign_38 at hf
        unfold f_X2_isSign_43 at hf
        obtain ⟨-, hf⟩ := m_chkE hf
        cases hf
        try dsimp only
        unfold isL at *
        unfold isD at *
        omega
      · skip
        replace c3 := ti_eqN (a := x0) (b := (61 : Int32)) c3 rfl (show (61 : Int32).toInt = 61 from rfl)
        rcases m_ifE hf with ⟨c4, hf⟩ | ⟨c4, hf⟩
        · skip
          replace c4 := ti_eqP (a := x0) (b := (45 : Int32)) c4 rfl (show (45 : Int32).toInt = 45 from rfl)
          unfold f_X2_isSign_38 at hf
          unfold f_X2_isSign_43 at hf
          obtain ⟨-, hf⟩ := m_chkE hf
          cases hf
          try dsimp only
          unfold isL at *
          unfold isD at *
          omega
        · skip
          replace c4 := ti_eqN (a := x0) (b := (45 : Int32)) c4 rfl (show (45 : Int32).toInt = 45 from rfl)
          rcases m_ifE hf with ⟨c5, hf⟩ | ⟨c5, hf⟩
          · skip
            replace c5 := ti_eqP (a := x0) (b := (43 : Int32)) c5 rfl (show (43 : Int32).toInt = 43 from rfl)
            unfold f_X2_isSign_38 at hf
            unfold f_X2_isSign_43 at hf
            obtain ⟨-, hf⟩ := m_chkE hf
            cases hf
            try dsimp only
            unfold isL at *
            unfold isD at *
            omega
          · skip
            replace c5 := ti_eqN (a := x0) (b := (43 : Int32)) c5 rfl (show (43 : Int32).toInt = 43 from rfl)
            rcases m_ifE hf with ⟨c6, hf⟩ | ⟨c6, hf⟩
            · skip
              replace c6 := ti_eqP (a := x0) (b := (35 : Int32)) c6 rfl (show (35 : Int32).toInt = 35 from rfl)
              unfold f_X2_isSign_38 at hf
              unfold f_X2_isSign_43 at hf
              obtain ⟨-, hf⟩ := m_chkE hf
              cases hf
              try dsimp only
              unfold isL at *
              unfold isD at *
              omega
            · skip
              replace c6 := ti_eqN (a := x0) (b := (35 : Int32)) c6 rfl (show (35 : Int32).toInt = 35 from rfl)
              unfold f_X2_isSign_43 at hf
              obtain ⟨-, hf⟩ := m_chkE hf
              cases hf
              try dsimp only
              unfold isL at *
              unfold isD at *
              omega
    · skip
      replace c2 := ti_eqN (a := r2) (b := (0 : Int32)) c2 rfl (show (0 : Int32).toInt = 0 from rfl)
      unfold f_X2_isSign_38 at hf
      unfold f_X2_isSign_43 at hf
      obtain ⟨-, hf⟩ := m_chkE hf
      cases hf
      try dsimp only
      unfold isL at *
      unfold isD at *
      omega
  · skip
    replace c1 := ti_eqN (a := r1) (b := (0 : Int32)) c1 rfl (show (0 : Int32).toInt = 0 from rfl)
    unfold f_X2_isSign_38 at hf
    unfold f_X2_isSign_43 at hf
    obtain ⟨-, hf⟩ := m_chkE hf
    cases hf
    try dsimp only
    unfold isL at *
    unfold isD at *
    omega
def shM (c t : Int) : Int := if c = 33 then (if t = 33 then 3 else if t = 63 then 5 else 1) else if c = 63 then (if t = 63 then 4 else if t = 33 then 6 else 2) else 0
theorem pc_X2_shortMark {x0 x1 : Int32} {o : Int32 × ZS} (hf : f_X2_shortMark x0 x1 S = some o) : o.1.toInt = shM x0.toInt x1.toInt := by
  have hf : f_X2_shortMark_0 x0 x1 S = some o := hf
  have z0 : (0 : Int32).toInt = 0 := rfl
  have z1 : (1 : Int32).toInt = 1 := rfl
  have z2 : (2 : Int32).toInt = 2 := rfl
  have z3 : (3 : Int32).toInt = 3 := rfl
  have z4 : (4 : Int32).toInt = 4 := rfl
  have z5 : (5 : Int32).toInt = 5 := rfl
  have z6 : (6 : Int32).toInt = 6 := rfl
  unfold shM
  unfold f_X2_shortMark_0 at hf
  rcases m_ifE hf with ⟨c1, hf⟩ | ⟨c1, hf⟩
  · skip
    replace c1 := ti_eqP (a := x0) (b := (33 : Int32)) c1 rfl (show (33 : Int32).toInt = 33 from rfl)
    rcases m_ifE hf with ⟨c2, hf⟩ | ⟨c2, hf⟩
    · skip
      replace c2 := ti_eqP (a := x1) (b := (33 : Int32)) c2 rfl (show (33 : Int32).toInt = 33 from rfl)
      unfold f_X2_shortMark_27 at hf
      cases hf
      try dsimp only
      omega
    · skip
      replace c2 := ti_eqN (a := x1) (b := (33 : Int32)) c2 rfl (show (33 : Int32).toInt = 33 from rfl)
      rcases m_ifE hf with ⟨c3, hf⟩ | ⟨c3, hf⟩
      · skip
        replace c3 := ti_eqP (a := x1) (b := (63 : Int32)) c3 rfl (show (63 : Int32).toInt = 63 from rfl)
        unfold f_X2_shortMark_27 at hf
        cases hf
        try dsimp only
        omega
      · skip
        replace c3 := ti_eqN (a := x1) (b := (63 : Int32)) c3 rfl (show (63 : Int32).toInt = 63 from rfl)
        unfold f_X2_shortMark_27 at hf
        cases hf
        try dsimp only
        omega
  · skip
    replace c1 := ti_eqN (a := x0) (b := (33 : Int32)) c1 rfl (show (33 : Int32).toInt = 33 from rfl)
    rcases m_ifE hf with ⟨c4, hf⟩ | ⟨c4, hf⟩
    · skip
      replace c4 := ti_eqP (a := x0) (b := (63 : Int32)) c4 rfl (show (63 : Int32).toInt = 63 from rfl)
      rcases m_ifE hf with ⟨c5, hf⟩ | ⟨c5, hf⟩
      · skip
        replace c5 := ti_eqP (a := x1) (b := (63 : Int32)) c5 rfl (show (63 : Int32).toInt = 63 from rfl)
        unfold f_X2_shortMark_56 at hf
        cases hf
        try dsimp only
        omega
      · skip
        replace c5 := ti_eqN (a := x1) (b := (63 : Int32)) c5 rfl (show (63 : Int32).toInt = 63 from rfl)
        rcases m_ifE hf with ⟨c6, hf⟩ | ⟨c6, hf⟩
        · skip
          replace c6 := ti_eqP (a := x1) (b := (33 : Int32)) c6 rfl (show (33 : Int32).toInt = 33 from rfl)
          unfold f_X2_shortMark_56 at hf
          cases hf
          try dsimp only
          omega
        · skip
          replace c6 := ti_eqN (a := x1) (b := (33 : Int32)) c6 rfl (show (33 : Int32).toInt = 33 from rfl)
          unfold f_X2_shortMark_56 at hf
          cases hf
          try dsimp only
          omega
    · skip
      replace c4 := ti_eqN (a := x0) (b := (63 : Int32)) c4 rfl (show (63 : Int32).toInt = 63 from rfl)
      cases hf
      try dsimp only
      omega
end PCC
section PCR
variable {I : Nat → Int32} {A : Nat → Nat → Int32} {x0 x1 x2 : Int32} {o : Int32 × MS}
theorem pc_look (hf : f_look I A = some o) : 0 ≤ (I 37).toInt → o.1.toInt = txR I A (I 37).toInt := by
  intro h37
  have hf : f_look_0 I A = some o := hf
  unfold f_look_0 at hf
  rcases m_ifE hf with ⟨c1, hf⟩ | ⟨c1, hf⟩
  · skip
    replace c1 := ti_leP (a := (I 1)) (b := (I 37)) c1 rfl rfl
    unfold f_look_24 at hf
    obtain ⟨-, hf⟩ := m_chkE hf
    cases hf
    try dsimp only
    exact (tx_out (by omega)).symm
  · skip
    replace c1 := ti_leN (a := (I 1)) (b := (I 37)) c1 rfl rfl
    obtain ⟨-, hf⟩ := m_chkE hf
    obtain ⟨v1, e_v1, hf⟩ := m_bndE hf
    unfold f_look_24 at hf
    obtain ⟨-, hf⟩ := m_chkE hf
    cases hf
    try dsimp only
    exact tx_at e_v1 (by omega) (by omega)
theorem pc_isLetter (hf : f_isLetter x0 I A = some o) : (o.1.toInt = 0 ∨ o.1.toInt = 1) ∧ (o.1.toInt = 1 ↔ isL x0.toInt) := by
  have hf : f_isLetter_0 x0 I A = some o := hf
  have z0 : (0 : Int32).toInt = 0 := rfl
  have z1 : (1 : Int32).toInt = 1 := rfl
  unfold f_isLetter_0 at hf
  rcases m_ifE hf with ⟨c1, hf⟩ | ⟨c1, hf⟩
  · skip
    replace c1 := ti_ltP (a := x0) (b := (97 : Int32)) c1 rfl (show (97 : Int32).toInt = 97 from rfl)
    unfold f_isLetter_12 at hf
    rcases m_ifE hf with ⟨c2, hf⟩ | ⟨c2, hf⟩
    · skip
      replace c2 := ti_ltP (a := x0) (b := (65 : Int32)) c2 rfl (show (65 : Int32).toInt = 65 from rfl)
      unfold f_isLetter_28 at hf
      unfold f_isLetter_29 at hf
      obtain ⟨-, hf⟩ := m_chkE hf
      cases hf
      try dsimp only
      unfold isL
      omega
    · skip
      replace c2 := ti_ltN (a := x0) (b := (65 : Int32)) c2 rfl (show (65 : Int32).toInt = 65 from rfl)
      rcases m_ifE hf with ⟨c3, hf⟩ | ⟨c3, hf⟩
      · skip
        replace c3 := ti_ltP (a := (90 : Int32)) (b := x0) c3 (show (90 : Int32).toInt = 90 from rfl) rfl
        unfold f_isLetter_28 at hf
        unfold f_isLetter_29 at hf
        obtain ⟨-, hf⟩ := m_chkE hf
        cases hf
        try dsimp only
        unfold isL
        omega
      · skip
        replace c3 := ti_ltN (a := (90 : Int32)) (b := x0) c3 (show (90 : Int32).toInt = 90 from rfl) rfl
        unfold f_isLetter_24 at hf
        unfold f_isLetter_29 at hf
        obtain ⟨-, hf⟩ := m_chkE hf
        cases hf
        try dsimp only
        unfold isL
        omega
  · skip
    replace c1 := ti_ltN (a := x0) (b := (97 : Int32)) c1 rfl (show (97 : Int32).toInt = 97 from rfl)
    rcases m_ifE hf with ⟨c4, hf⟩ | ⟨c4, hf⟩
    · skip
      replace c4 := ti_leP (a := x0) (b := (122 : Int32)) c4 rfl (show (122 : Int32).toInt = 122 from rfl)
      unfold f_isLetter_24 at hf
      unfold f_isLetter_29 at hf
      obtain ⟨-, hf⟩ := m_chkE hf
      cases hf
      try dsimp only
      unfold isL
      omega
    · skip
      replace c4 := ti_leN (a := x0) (b := (122 : Int32)) c4 rfl (show (122 : Int32).toInt = 122 from rfl)
      unfold f_isLetter_12 at hf
      rcases m_ifE hf with ⟨c5, hf⟩ | ⟨c5, hf⟩
      · skip
        replace c5 := ti_ltP (a := x0) (b := (65 : Int32)) c5 rfl (show (65 : Int32).toInt = 65 from rfl)
        unfold f_isLetter_28 at hf
        unfold f_isLetter_29 at hf
        obtain ⟨-, hf⟩ := m_chkE hf
        cases hf
        try dsimp only
        unfold isL
        omega
      · skip
        replace c5 := ti_ltN (a := x0) (b := (65 : Int32)) c5 rfl (show (65 : Int32).toInt = 65 from rfl)
        rcases m_ifE hf with ⟨c6, hf⟩ | ⟨c6, hf⟩
        · skip
          replace c6 := ti_ltP (a := (90 : Int32)) (b := x0) c6 (show (90 : Int32).toInt = 90 from rfl) rfl
          unfold f_isLetter_28 at hf
          unfold f_isLetter_29 at hf
          obtain ⟨-, hf⟩ := m_chkE hf
          cases hf
          try dsimp only
          unfold isL
          omega
        · skip
          replace c6 := ti_ltN (a := (90 : Int32)) (b := x0) c6 (show (90 : Int32).toInt = 90 from rfl) rfl
          unfold f_isLetter_24 at hf
          unfold f_isLetter_29 at hf
          obtain ⟨-, hf⟩ := m_chkE hf
          cases hf
          try dsimp only
          unfold isL
          omega
theorem pc_isDigit (hf : f_isDigit x0 I A = some o) : (o.1.toInt = 0 ∨ o.1.toInt = 1) ∧ (o.1.toInt = 1 ↔ isD x0.toInt) := by
  have hf : f_isDigit_0 x0 I A = some o := hf
  have z0 : (0 : Int32).toInt = 0 := rfl
  have z1 : (1 : Int32).toInt = 1 := rfl
  unfold f_isDigit_0 at hf
  rcases m_ifE hf with ⟨c1, hf⟩ | ⟨c1, hf⟩
  · skip
    replace c1 := ti_ltP (a := x0) (b := (48 : Int32)) c1 rfl (show (48 : Int32).toInt = 48 from rfl)
    unfold f_isDigit_16 at hf
    unfold f_isDigit_17 at hf
    obtain ⟨-, hf⟩ := m_chkE hf
    cases hf
    try dsimp only
    unfold isD
    omega
  · skip
    replace c1 := ti_ltN (a := x0) (b := (48 : Int32)) c1 rfl (show (48 : Int32).toInt = 48 from rfl)
    rcases m_ifE hf with ⟨c2, hf⟩ | ⟨c2, hf⟩
    · skip
      replace c2 := ti_ltP (a := (57 : Int32)) (b := x0) c2 (show (57 : Int32).toInt = 57 from rfl) rfl
      unfold f_isDigit_16 at hf
      unfold f_isDigit_17 at hf
      obtain ⟨-, hf⟩ := m_chkE hf
      cases hf
      try dsimp only
      unfold isD
      omega
    · skip
      replace c2 := ti_ltN (a := (57 : Int32)) (b := x0) c2 (show (57 : Int32).toInt = 57 from rfl) rfl
      unfold f_isDigit_17 at hf
      obtain ⟨-, hf⟩ := m_chkE hf
      cases hf
      try dsimp only
      unfold isD
      omega
theorem pc_kind (hf : f_kind x0 I A = some o) : TJ I → TK A → (0 ≤ x0.toInt ∧ x0.toInt ≤ 14) → o.1.toInt = x0.toInt % 8 := fun hI hA h => (ok_of (x_kind hI hA h) hf).2.2
end PCR
/-- blanks from a to b -/
def BL (ch : Int → Int) (a b : Int) : Prop := a ≤ b ∧ (∀ j, a ≤ j → j < b → ch j = 32 ∨ ch j = 10) ∧ ch b ≠ 32 ∧ ch b ≠ 10
theorem bl_u {ch : Int → Int} {a b c : Int} (h : BL ch a b) (g : BL ch a c) : b = c := by
  obtain ⟨h1, h2, h3⟩ := h
  obtain ⟨g1, g2, g3⟩ := g
  rcases Int.lt_trichotomy b c with l | l | l
  · have := g2 b h1 l
    omega
  · exact l
  · have := h2 c g1 l
    omega
theorem bl_s {ch : Int → Int} {a b : Int} (h : ch a = 32 ∨ ch a = 10) (g : BL ch (a + 1) b) : BL ch a b := by
  obtain ⟨g1, g2, g3⟩ := g
  refine ⟨by omega, fun j j1 j2 => ?_, g3⟩
  by_cases e : j = a
  · rw [e]; exact h
  · exact g2 j (by omega) j2
theorem bl_0 {ch : Int → Int} {a : Int} (h : ch a ≠ 32) (g : ch a ≠ 10) : BL ch a a := ⟨Int.le_refl _, fun j j1 j2 => by omega, h, g⟩
theorem zsI_id {S : ZS} {j a : Nat} : zsI S j a (zI S j a) = S := by
  have h : va_up (zI S) j (va_up (zI S j) a (zI S j a)) = zI S := by
    funext i d
    by_cases f : i = j
    · rw [f, va_up_self]
      by_cases g : d = a
      · rw [g, va_up_self]
      · rw [va_up_ne _ _ g]
    · rw [va_up_ne _ _ f]
  show (zL S, zK S, va_up (zI S) j (va_up (zI S j) a (zI S j a)), zP S, zN S, zA S, zB S, zc S, zt S, zu S) = S
  rw [h]
theorem zsI_zsI {S : ZS} {j a : Nat} {v w : Int32} : zsI (zsI S j a v) j a w = zsI S j a w := by
  have h : va_up (zI (zsI S j a v)) j (va_up (zI (zsI S j a v) j) a w) = va_up (zI S) j (va_up (zI S j) a w) := by
    funext i d
    by_cases f : i = j
    · subst f
      rw [va_up_self, va_up_self]
      by_cases g : d = a
      · subst g
        rw [va_up_self, va_up_self]
      · rw [va_up_ne _ _ g, va_up_ne _ _ g]
        exact zI_b g
    · rw [va_up_ne _ _ f, va_up_ne _ _ f]
      exact congrFun (va_up_ne _ _ f) d
  show (zL S, zK S, va_up (zI (zsI S j a v)) j (va_up (zI (zsI S j a v) j) a w), zP S, zN S, zA S, zB S, zc S, zt S, zu S) = _
  rw [h]
  rfl
theorem rwI_ {S : ZS} {j a b : Nat} {v : Int32} (h : a ≠ b ∨ j ≠ 1) : rwC (zsI S j a v) b = rwC S b := by
  have e : zI (zsI S j a v) 1 b = zI S 1 b := by
    rcases h with h | h
    · exact zI_b (fun e => h e.symm)
    · exact zI_j (fun e => h e.symm)
  funext i
  unfold rwC
  rw [e]
  rfl
section BLK
variable {x0 tr : Nat} {ch : Int → Int}
theorem p_skip {o : Int32 × ZS} : ∀ (n : Nat) (S : ZS), zK S x0 = 2 → zK S tr = 6 → zP S 2 x0 = some tr → rwC S tr = ch → (0 ≤ (zI S 4 x0).toInt ∧ (zI S 4 x0).toInt ≤ 100000) → (zI S 1 tr).toInt ≤ 100000 → f_X2_skipBlanks_0 n x0 S = some o → ∃ v : Int32, BL ch (zI S 4 x0).toInt v.toInt ∧ o.2 = zsI S 4 x0 v ∧ (v.toInt ≤ (zI S 4 x0).toInt ∨ v.toInt ≤ (zI S 1 tr).toInt) := by
  intro n
  induction n with
  | zero => intro S _ _ _ _ _ _ hf; cases hf
  | succ n ih =>
    intro S k2 k6 hP hch hb hl hf
    have hf : f_X2_skipBlanks_0s (f_X2_skipBlanks_0 n) x0 S = some o := hf
    have go : (ch (zI S 4 x0).toInt = 32 ∨ ch (zI S 4 x0).toInt = 10) → (zI S 4 x0).toInt < (zI S 1 tr).toInt → f_X2_skipBlanks_46 (f_X2_skipBlanks_0 n) x0 S = some o → ∃ v : Int32, BL ch (zI S 4 x0).toInt v.toInt ∧ o.2 = zsI S 4 x0 v ∧ (v.toInt ≤ (zI S 4 x0).toInt ∨ v.toInt ≤ (zI S 1 tr).toInt) := by
      intro hc hlt hf
      have hne : x0 ≠ tr := fun e => by rw [e, k6] at k2; exact absurd k2 (by decide)
      unfold f_X2_skipBlanks_46 at hf
      obtain ⟨-, hf⟩ := m_chkE hf
      obtain ⟨v1, e_v1, hf⟩ := m_bndE hf
      have t_v1 : v1.toInt = (zI S 4 x0).toInt + 1 := ti_add e_v1 rfl (show (1 : Int32).toInt = 1 from rfl) (by omega) (by omega)
      obtain ⟨-, hf⟩ := m_chkE hf
      obtain ⟨S2, e_S2, hf⟩ := m_bndE hf
      have a4 : zI S2 4 x0 = v1 := by rw [e_S2]; exact zI_self _ _ _ _
      have a1 : zI S2 1 tr = zI S 1 tr := by rw [e_S2]; exact zI_j (by decide)
      obtain ⟨v, b1, b2, b3⟩ := ih S2 (by rw [e_S2]; exact k2) (by rw [e_S2]; exact k6) (by rw [e_S2]; exact hP) (by rw [e_S2, rwI_ (Or.inl hne)]; exact hch) (by rw [a4]; omega) (by rw [a1]; exact hl) hf
      refine ⟨v, ?_, ?_, ?_⟩
      · rw [a4, t_v1] at b1
        exact bl_s hc b1
      · rw [b2, e_S2, zsI_zsI]
      · rw [a4, a1] at b3
        have := b1.1
        rw [a4] at this
        omega
    unfold f_X2_skipBlanks_0s at hf
    obtain ⟨-, hf⟩ := m_chkE hf
    obtain ⟨-, hf⟩ := m_chkE hf
    replace hf := m_calY hf hP
    obtain ⟨-, hf⟩ := m_chkE hf
    obtain ⟨r2, h_r2, hf⟩ := m_calR hf (fun _ h => ro_X6_size h)
    dsimp only at hf
    have p_r2 := pc_X6_size h_r2
    dsimp only at p_r2
    have s2 : r2.toInt = (zI S 1 tr).toInt := by rw [p_r2]
    rcases m_ifE hf with ⟨c1, hf⟩ | ⟨c1, hf⟩
    · skip
      replace c1 := ti_leP (a := r2) (b := (zI S 4 x0)) c1 rfl rfl
      unfold f_X2_skipBlanks_59 at hf
      cases hf
      try dsimp only
      exact ⟨zI S 4 x0, bl_0 (by rw [← hch, rw_out (by omega)]; decide) (by rw [← hch, rw_out (by omega)]; decide), zsI_id.symm, Or.inl (Int.le_refl _)⟩
    · skip
      replace c1 := ti_leN (a := r2) (b := (zI S 4 x0)) c1 rfl rfl
      obtain ⟨-, hf⟩ := m_chkE hf
      replace hf := m_calY hf hP
      obtain ⟨-, hf⟩ := m_chkE hf
      obtain ⟨-, hf⟩ := m_chkE hf
      obtain ⟨r4, h_r4, hf⟩ := m_calR hf (fun _ h => ro_X6_at h)
      dsimp only at hf
      have p_r4 := pc_X6_at h_r4
      dsimp only at p_r4
      rw [hch] at p_r4
      rcases m_ifE hf with ⟨c2, hf⟩ | ⟨c2, hf⟩
      · skip
        replace c2 := ti_eqP (a := r4) (b := (32 : Int32)) c2 rfl (show (32 : Int32).toInt = 32 from rfl)
        exact go (Or.inl (by omega)) (by omega) hf
      · skip
        replace c2 := ti_eqN (a := r4) (b := (32 : Int32)) c2 rfl (show (32 : Int32).toInt = 32 from rfl)
        obtain ⟨-, hf⟩ := m_chkE hf
        replace hf := m_calY hf hP
        obtain ⟨-, hf⟩ := m_chkE hf
        obtain ⟨-, hf⟩ := m_chkE hf
        obtain ⟨r6, h_r6, hf⟩ := m_calR hf (fun _ h => ro_X6_at h)
        dsimp only at hf
        have p_r6 := pc_X6_at h_r6
        dsimp only at p_r6
        rw [hch] at p_r6
        rcases m_ifE hf with ⟨c3, hf⟩ | ⟨c3, hf⟩
        · skip
          replace c3 := ti_eqP (a := r6) (b := (10 : Int32)) c3 rfl (show (10 : Int32).toInt = 10 from rfl)
          exact go (Or.inr (by omega)) (by omega) hf
        · skip
          replace c3 := ti_eqN (a := r6) (b := (10 : Int32)) c3 rfl (show (10 : Int32).toInt = 10 from rfl)
          unfold f_X2_skipBlanks_59 at hf
          cases hf
          try dsimp only
          exact ⟨zI S 4 x0, bl_0 (by omega) (by omega), zsI_id.symm, Or.inl (Int.le_refl _)⟩
theorem p_skipBlanks {S : ZS} {o : Int32 × ZS} (k2 : zK S x0 = 2) (k6 : zK S tr = 6) (hP : zP S 2 x0 = some tr) (hch : rwC S tr = ch) (hb : 0 ≤ (zI S 4 x0).toInt ∧ (zI S 4 x0).toInt ≤ 100000) (hl : (zI S 1 tr).toInt ≤ 100000) (hf : f_X2_skipBlanks x0 S = some o) : ∃ v : Int32, BL ch (zI S 4 x0).toInt v.toInt ∧ o.2 = zsI S 4 x0 v ∧ (v.toInt ≤ (zI S 4 x0).toInt ∨ v.toInt ≤ (zI S 1 tr).toInt) := p_skip mFuel S k2 k6 hP hch hb hl hf
/-- the reference's blanks -/
theorem p_blanksL {o : Int32 × MS} {A : Nat → Nat → Int32} : ∀ (n : Nat) (I : Nat → Int32), txR I A = ch → (0 ≤ (I 37).toInt ∧ (I 37).toInt ≤ 100000) → (I 1).toInt ≤ 100000 → f_blanks_0 n I A = some o → ∃ v : Int32, BL ch (I 37).toInt v.toInt ∧ o.2 = (upd I 37 v, A) ∧ (v.toInt ≤ (I 37).toInt ∨ v.toInt ≤ (I 1).toInt) := by
  intro n
  induction n with
  | zero => intro I _ _ _ hf; cases hf
  | succ n ih =>
    intro I hch hb hl hf
    have hf : f_blanks_0s (f_blanks_0 n) I A = some o := hf
    have idI : upd I 37 (I 37) = I := by
      funext i
      by_cases e : i = 37
      · rw [e, upd_self]
      · rw [upd_ne e]
    have go : (ch (I 37).toInt = 32 ∨ ch (I 37).toInt = 10) → (I 37).toInt < (I 1).toInt → f_blanks_39 (f_blanks_0 n) I A = some o → ∃ v : Int32, BL ch (I 37).toInt v.toInt ∧ o.2 = (upd I 37 v, A) ∧ (v.toInt ≤ (I 37).toInt ∨ v.toInt ≤ (I 1).toInt) := by
      intro hc hlt hf
      unfold f_blanks_39 at hf
      obtain ⟨v1, e_v1, hf⟩ := m_bndE hf
      have t_v1 : v1.toInt = (I 37).toInt + 1 := ti_add e_v1 rfl (show (1 : Int32).toInt = 1 from rfl) (by omega) (by omega)
      obtain ⟨I2, e_I2, hf⟩ := m_bndE hf
      have a4 : I2 37 = v1 := by rw [e_I2]; exact upd_self
      have a1 : I2 1 = I 1 := by rw [e_I2]; exact upd_ne (by decide)
      obtain ⟨v, b1, b2, b3⟩ := ih I2 (by unfold txR; rw [a1]; exact hch) (by rw [a4]; omega) (by rw [a1]; exact hl) hf
      refine ⟨v, ?_, ?_, ?_⟩
      · rw [a4, t_v1] at b1
        exact bl_s hc b1
      · rw [b2]
        congr 1
        funext i
        by_cases e : i = 37
        · rw [e, upd_self, upd_self]
        · rw [upd_ne e, upd_ne e, e_I2, upd_ne e]
      · rw [a4, a1] at b3
        have := b1.1
        rw [a4] at this
        omega
    unfold f_blanks_0s at hf
    rcases m_ifE hf with ⟨c1, hf⟩ | ⟨c1, hf⟩
    · skip
      replace c1 := ti_leP (a := (I 1)) (b := (I 37)) c1 rfl rfl
      unfold f_blanks_52 at hf
      cases hf
      try dsimp only
      exact ⟨I 37, bl_0 (by rw [← hch, tx_out (by omega)]; decide) (by rw [← hch, tx_out (by omega)]; decide), by rw [idI], Or.inl (Int.le_refl _)⟩
    · skip
      replace c1 := ti_leN (a := (I 1)) (b := (I 37)) c1 rfl rfl
      obtain ⟨-, hf⟩ := m_chkE hf
      obtain ⟨v1, e_v1, hf⟩ := m_bndE hf
      have c_v1 : (I 37).toInt < (I 1).toInt → v1.toInt = ch (I 37).toInt := fun h => by rw [← hch]; exact tx_at e_v1 hb.1 h
      rcases m_ifE hf with ⟨c2, hf⟩ | ⟨c2, hf⟩
      · skip
        replace c2 := ti_eqP (a := v1) (b := (32 : Int32)) c2 rfl (show (32 : Int32).toInt = 32 from rfl)
        exact go (Or.inl (by have := c_v1 (by omega); omega)) (by omega) hf
      · skip
        replace c2 := ti_eqN (a := v1) (b := (32 : Int32)) c2 rfl (show (32 : Int32).toInt = 32 from rfl)
        obtain ⟨-, hf⟩ := m_chkE hf
        obtain ⟨v2, e_v2, hf⟩ := m_bndE hf
        have c_v2 : (I 37).toInt < (I 1).toInt → v2.toInt = ch (I 37).toInt := fun h => by rw [← hch]; exact tx_at e_v2 hb.1 h
        rcases m_ifE hf with ⟨c3, hf⟩ | ⟨c3, hf⟩
        · skip
          replace c3 := ti_eqP (a := v2) (b := (10 : Int32)) c3 rfl (show (10 : Int32).toInt = 10 from rfl)
          exact go (Or.inr (by have := c_v2 (by omega); omega)) (by omega) hf
        · skip
          replace c3 := ti_eqN (a := v2) (b := (10 : Int32)) c3 rfl (show (10 : Int32).toInt = 10 from rfl)
          unfold f_blanks_52 at hf
          cases hf
          try dsimp only
          exact ⟨I 37, bl_0 (by have := c_v1 (by omega); omega) (by have := c_v2 (by omega); omega), by rw [idI], Or.inl (Int.le_refl _)⟩
theorem p_blanks {o : Int32 × MS} {I : Nat → Int32} {A : Nat → Nat → Int32} (hch : txR I A = ch) (hb : 0 ≤ (I 37).toInt ∧ (I 37).toInt ≤ 100000) (hl : (I 1).toInt ≤ 100000) (hf : f_blanks I A = some o) : ∃ v : Int32, BL ch (I 37).toInt v.toInt ∧ o.2 = (upd I 37 v, A) ∧ (v.toInt ≤ (I 37).toInt ∨ v.toInt ≤ (I 1).toInt) := p_blanksL mFuel I hch hb hl hf
end BLK
