section SND
variable {S : ZS} {bb : Nat} {m : Int → Int} {o : Int32 × ZS} {sd rt ps ko : Int}
theorem cnt_ku {w : Int} (h : cnt (fun s => m (s : Int) = 6 + 8 * w) 64 = 1) : ∃ k, KU m w k := by
  obtain ⟨s, h1, h2, -⟩ := cnt_sur (P := fun s => m (s : Int) = 6 + 8 * w) (k := 0) (N := 64) (by omega)
  refine ⟨(s : Int), by omega, by omega, h2, fun q q1 q2 q3 => ?_⟩
  have e := cnt_1 (n := q.toNat) (k := s) h (show m ((q.toNat : Nat) : Int) = 6 + 8 * w by rw [Int.toNat_of_nonneg q1]; exact q3) h2 (by omega) h1
  omega
theorem ku_cnt {w k : Int} (h : KU m w k) : cnt (fun s => m (s : Int) = 6 + 8 * w) 64 = 1 := by
  obtain ⟨h1, h2, h3, h4⟩ := h
  have hk : (fun s : Nat => m (s : Int) = 6 + 8 * w) k.toNat := by
    show m ((k.toNat : Nat) : Int) = 6 + 8 * w
    rw [Int.toNat_of_nonneg h1]; exact h3
  have e1 : cnt (fun s => m (s : Int) = 6 + 8 * w) k.toNat = 0 := cnt_0 (fun j hj hp => by
    have := h4 (j : Int) (by omega) (by omega) hp
    omega)
  have e2 : cnt (fun s => m (s : Int) = 6 + 8 * w) 64 = cnt (fun s => m (s : Int) = 6 + 8 * w) (k.toNat + 1) := cnt_gap (by omega) (fun j j1 j2 hp => by
    have := h4 (j : Int) (by omega) (by omega) hp
    omega)
  rw [e2, cnt_y hk, e1]
theorem sm_6 (hT : ZT S) (kb : zK S bb = 0) (pb : zP S 0 bb = some (bb + 1)) (hm : mCb S bb = m) (hM : MBd m) (hs : (zI S 3 bb).toInt = sd) (hs2 : sd = 0 ∨ sd = 1) (hko : ko = if 1 - sd = 0 then (zI S 1 bb).toInt else (zI S 2 bb).toInt) : ∀ (n : Nat) (x1 x2 x3 : Int32), (0 ≤ x3.toInt ∧ x3.toInt ≤ 64) → x1.toInt = ((cnt (fun s => m (s : Int) = 6) x3.toInt.toNat : Nat) : Int) → x2.toInt = ((cnt (fun s => m (s : Int) = 14) x3.toInt.toNat : Nat) : Int) → (∀ s, 0 ≤ s → s < x3.toInt → m s % 8 = 1 → 8 ≤ s ∧ s < 56) → f_X5_hasSoundMen_6 n bb x1 x2 x3 S = some o → (o.1.toInt = 0 ∨ o.1.toInt = 1) ∧ (o.1.toInt = 1 ↔ SMn m sd ko) := by
  intro n
  have z0 : (0 : Int32).toInt = 0 := rfl
  have z1 : (1 : Int32).toInt = 1 := rfl
  induction n with
  | zero => intro x1 x2 x3 _ _ _ _ hf; cases hf
  | succ n ih =>
    intro x1 x2 x3 h3 h1 h2 hnp hf
    have hf : f_X5_hasSoundMen_6s (f_X5_hasSoundMen_6 n) bb x1 x2 x3 S = some o := hf
    have cl1 : cnt (fun s => m (s : Int) = 6) x3.toInt.toNat ≤ x3.toInt.toNat := cnt_le
    have cl2 : cnt (fun s => m (s : Int) = 14) x3.toInt.toNat ≤ x3.toInt.toNat := cnt_le
    have en : ((x3.toInt.toNat : Nat) : Int) = x3.toInt := by omega
    have step : ∀ (t0 v1 : Int32), x3.toInt < 64 → v1.toInt = ((cnt (fun s => m (s : Int) = 6) (x3.toInt.toNat + 1) : Nat) : Int) → (t0.toInt = 0 ∨ t0.toInt = 1) → (t0.toInt = 1 ↔ m x3.toInt = 14) → f_X5_hasSoundMen_48 (f_X5_hasSoundMen_6 n) bb v1 x3 t0 x2 S = some o → (o.1.toInt = 0 ∨ o.1.toInt = 1) ∧ (o.1.toInt = 1 ↔ SMn m sd ko) := by
      intro t0 w1 hlt hw1 ht ht2 hf
      unfold f_X5_hasSoundMen_48 at hf
      obtain ⟨v1, e1, hf⟩ := m_bndE hf
      have t1 : v1.toInt = x2.toInt + t0.toInt := ti_add e1 rfl rfl (by omega) (by omega)
      have hv1 : v1.toInt = ((cnt (fun s => m (s : Int) = 14) (x3.toInt.toNat + 1) : Nat) : Int) := by
        by_cases h : m x3.toInt = 14
        · rw [cnt_y (show m ((x3.toInt.toNat : Nat) : Int) = 14 by rw [en]; exact h), t1, h2, ht2.2 h]; omega
        · have : t0.toInt = 0 := ht.resolve_right (fun g => h (ht2.1 g))
          rw [cnt_n (show ¬ m ((x3.toInt.toNat : Nat) : Int) = 14 by rw [en]; exact h), t1, h2, this]; omega
      obtain ⟨-, hf⟩ := m_chkE hf
      obtain ⟨r2, h2', hf⟩ := m_calR hf (fun _ h => ro_X0_kindAt h)
      obtain ⟨-, b2, q2⟩ := ok_of (x_f_X0_kindAt hT kb (by omega) (by rw [hm]; exact hM)) h2'
      dsimp only at hf b2 q2
      rw [hm] at q2
      have bad : m x3.toInt % 8 = 1 → ¬ (8 ≤ x3.toInt ∧ x3.toInt < 56) → f_X5_hasSoundMen_71 S = some o → (o.1.toInt = 0 ∨ o.1.toInt = 1) ∧ (o.1.toInt = 1 ↔ SMn m sd ko) := fun hp hn hf => by
        unfold f_X5_hasSoundMen_71 at hf
        obtain ⟨-, hf⟩ := m_chkE hf
        cases hf
        exact ⟨Or.inl rfl, fun h => absurd (show (0 : Int32).toInt = 1 from h) (by decide), fun h => absurd (h.1 x3.toInt h3.1 hlt hp) hn⟩
      have go : (m x3.toInt % 8 = 1 → 8 ≤ x3.toInt ∧ x3.toInt < 56) → f_X5_hasSoundMen_73 (f_X5_hasSoundMen_6 n) bb w1 v1 x3 S = some o → (o.1.toInt = 0 ∨ o.1.toInt = 1) ∧ (o.1.toInt = 1 ↔ SMn m sd ko) := fun hp hf => by
        unfold f_X5_hasSoundMen_73 at hf
        obtain ⟨v9, e9, hf⟩ := m_bndE hf
        have t9 : v9.toInt = x3.toInt + 1 := ti_add e9 rfl (show (1 : Int32).toInt = 1 from rfl) (by omega) (by omega)
        have e10 : v9.toInt.toNat = x3.toInt.toNat + 1 := by omega
        refine ih w1 v1 v9 (by omega) (by rw [e10]; exact hw1) (by rw [e10]; exact hv1) (fun s s0 s1 s2 => ?_) hf
        by_cases e : s = x3.toInt
        · rw [e] at s2 ⊢; exact hp s2
        · exact hnp s s0 (by omega) s2
      rcases m_ifE hf with ⟨c1, hf⟩ | ⟨c1, hf⟩
      · replace c1 := ti_eqP (a := r2) (b := (1 : Int32)) c1 rfl rfl
        rcases m_ifE hf with ⟨c2, hf⟩ | ⟨c2, hf⟩
        · replace c2 := ti_ltP (a := x3) (b := (8 : Int32)) c2 rfl (show (8 : Int32).toInt = 8 from rfl)
          exact bad (by omega) (by omega) hf
        · replace c2 := ti_ltN (a := x3) (b := (8 : Int32)) c2 rfl (show (8 : Int32).toInt = 8 from rfl)
          rcases m_ifE hf with ⟨c3, hf⟩ | ⟨c3, hf⟩
          · replace c3 := ti_ltP (a := x3) (b := (56 : Int32)) c3 rfl (show (56 : Int32).toInt = 56 from rfl)
            exact go (fun _ => by omega) hf
          · replace c3 := ti_ltN (a := x3) (b := (56 : Int32)) c3 rfl (show (56 : Int32).toInt = 56 from rfl)
            exact bad (by omega) (by omega) hf
      · replace c1 := ti_eqN (a := r2) (b := (1 : Int32)) c1 rfl rfl
        exact go (fun h => by omega) hf
    have mid : ∀ t0 : Int32, x3.toInt < 64 → (t0.toInt = 0 ∨ t0.toInt = 1) → (t0.toInt = 1 ↔ m x3.toInt = 6) → f_X5_hasSoundMen_29 (f_X5_hasSoundMen_6 n) bb x2 x3 t0 x1 S = some o → (o.1.toInt = 0 ∨ o.1.toInt = 1) ∧ (o.1.toInt = 1 ↔ SMn m sd ko) := by
      intro t0 hlt ht ht2 hf
      unfold f_X5_hasSoundMen_29 at hf
      obtain ⟨v1, e1, hf⟩ := m_bndE hf
      have t1 : v1.toInt = x1.toInt + t0.toInt := ti_add e1 rfl rfl (by omega) (by omega)
      have hv1 : v1.toInt = ((cnt (fun s => m (s : Int) = 6) (x3.toInt.toNat + 1) : Nat) : Int) := by
        by_cases h : m x3.toInt = 6
        · rw [cnt_y (show m ((x3.toInt.toNat : Nat) : Int) = 6 by rw [en]; exact h), t1, h1, ht2.2 h]; omega
        · have : t0.toInt = 0 := ht.resolve_right (fun g => h (ht2.1 g))
          rw [cnt_n (show ¬ m ((x3.toInt.toNat : Nat) : Int) = 6 by rw [en]; exact h), t1, h1, this]; omega
      obtain ⟨-, hf⟩ := m_chkE hf
      replace hf := m_calY hf pb
      obtain ⟨-, hf⟩ := m_chkE hf
      obtain ⟨-, hf⟩ := m_chkE hf
      obtain ⟨v3, e3, hf⟩ := m_bndE hf
      have q3 := mB_at (b := bb) pb e3 (by omega) (by omega)
      rw [hm] at q3
      rcases m_ifE hf with ⟨c, hf⟩ | ⟨c, hf⟩
      · replace c := ti_eqP (a := v3) (b := (14 : Int32)) c rfl (show (14 : Int32).toInt = 14 from rfl)
        exact step 1 v1 hlt hv1 (Or.inr rfl) ⟨fun _ => by omega, fun _ => rfl⟩ hf
      · replace c := ti_eqN (a := v3) (b := (14 : Int32)) c rfl (show (14 : Int32).toInt = 14 from rfl)
        exact step 0 v1 hlt hv1 (Or.inl rfl) ⟨fun h => absurd h (by decide), fun h => by omega⟩ hf
    have e64 : 64 ≤ x3.toInt → x3.toInt.toNat = 64 := fun h => by omega
    unfold f_X5_hasSoundMen_6s at hf
    rcases m_ifE hf with ⟨c1, hf⟩ | ⟨c1, hf⟩
    · skip
      replace c1 := ti_leP (a := (64 : Int32)) (b := x3) c1 (show (64 : Int32).toInt = 64 from rfl) rfl
      rw [e64 (by omega)] at h1 h2
      have hnp2 : NPw m := fun s s0 s1 s2 => hnp s s0 (by omega) s2
      rcases m_ifE hf with ⟨c2, hf⟩ | ⟨c2, hf⟩
      · skip
        replace c2 := ti_eqP (a := x1) (b := (1 : Int32)) c2 rfl (show (1 : Int32).toInt = 1 from rfl)
        rcases m_ifE hf with ⟨c3, hf⟩ | ⟨c3, hf⟩
        · skip
          replace c3 := ti_eqP (a := x2) (b := (1 : Int32)) c3 rfl (show (1 : Int32).toInt = 1 from rfl)
          obtain ⟨-, hf⟩ := m_chkE hf
          obtain ⟨v1, e_v1, hf⟩ := m_bndE hf
          have t_v1 : v1.toInt = 1 - (zI S 3 bb).toInt := ti_sub e_v1 (show (1 : Int32).toInt = 1 from rfl) rfl (by omega) (by omega)
          obtain ⟨-, hf⟩ := m_chkE hf
          obtain ⟨r2, h_r2, hf⟩ := m_calR hf (fun _ h => ro_X0_kingOf h)
          dsimp only at hf
          obtain ⟨-, b2, q2⟩ := ok_of (x_f_X0_kingOf (x1 := v1) hT kb) h_r2
          dsimp only at b2 q2
          rw [t_v1, hs, ← hko] at q2
          obtain ⟨-, hf⟩ := m_chkE hf
          obtain ⟨-, hf⟩ := m_chkE hf
          obtain ⟨r3, h_r3, hf⟩ := m_calR hf (fun _ h => ro_X0_attacked h)
          dsimp only at hf
          obtain ⟨-, b3, q3⟩ := ok_of (y_f_X0_attacked hT kb b2 (by omega) (by rw [hm]; exact hM)) h_r3
          dsimp only at b3 q3
          rw [hm, hs, q2] at q3
          rcases m_ifE hf with ⟨c4, hf⟩ | ⟨c4, hf⟩
          · skip
            replace c4 := ti_eqP (a := r3) (b := (0 : Int32)) c4 rfl (show (0 : Int32).toInt = 0 from rfl)
            unfold f_X5_hasSoundMen_115 at hf
            obtain ⟨-, hf⟩ := m_chkE hf
            cases hf
            try dsimp only
            exact ⟨Or.inr rfl, fun _ => ⟨hnp2, by omega, by omega, fun h => by have := q3.2 h; omega⟩, fun _ => rfl⟩
          · skip
            replace c4 := ti_eqN (a := r3) (b := (0 : Int32)) c4 rfl (show (0 : Int32).toInt = 0 from rfl)
            unfold f_X5_hasSoundMen_114 at hf
            unfold f_X5_hasSoundMen_115 at hf
            obtain ⟨-, hf⟩ := m_chkE hf
            cases hf
            try dsimp only
            exact ⟨Or.inl rfl, fun h => absurd h (by decide), fun h => absurd (q3.1 (by omega)) h.2.2.2⟩
        · skip
          replace c3 := ti_eqN (a := x2) (b := (1 : Int32)) c3 rfl (show (1 : Int32).toInt = 1 from rfl)
          unfold f_X5_hasSoundMen_114 at hf
          unfold f_X5_hasSoundMen_115 at hf
          obtain ⟨-, hf⟩ := m_chkE hf
          cases hf
          try dsimp only
          exact ⟨Or.inl rfl, fun h => absurd h (by decide), fun h => by have := h.2.2.1; omega⟩
      · skip
        replace c2 := ti_eqN (a := x1) (b := (1 : Int32)) c2 rfl (show (1 : Int32).toInt = 1 from rfl)
        unfold f_X5_hasSoundMen_114 at hf
        unfold f_X5_hasSoundMen_115 at hf
        obtain ⟨-, hf⟩ := m_chkE hf
        cases hf
        try dsimp only
        exact ⟨Or.inl rfl, fun h => absurd h (by decide), fun h => by have := h.2.1; omega⟩
    · skip
      replace c1 := ti_leN (a := (64 : Int32)) (b := x3) c1 (show (64 : Int32).toInt = 64 from rfl) rfl
      obtain ⟨-, hf⟩ := m_chkE hf
      replace hf := m_calY hf pb
      obtain ⟨-, hf⟩ := m_chkE hf
      obtain ⟨-, hf⟩ := m_chkE hf
      obtain ⟨v5, e_v5, hf⟩ := m_bndE hf
      have q5 := mB_at (b := bb) pb e_v5 (by omega) (by omega)
      rw [hm] at q5
      rcases m_ifE hf with ⟨c5, hf⟩ | ⟨c5, hf⟩
      · skip
        replace c5 := ti_eqP (a := v5) (b := (6 : Int32)) c5 rfl (show (6 : Int32).toInt = 6 from rfl)
        exact mid 1 (by omega) (Or.inr rfl) ⟨fun _ => by omega, fun _ => rfl⟩ hf
      · skip
        replace c5 := ti_eqN (a := v5) (b := (6 : Int32)) c5 rfl (show (6 : Int32).toInt = 6 from rfl)
        exact mid 0 (by omega) (Or.inl rfl) ⟨fun h => absurd h (by decide), fun h => by omega⟩ hf
def rOk (m : Int → Int) (rt i : Int) : Prop := rb rt i → m (4 + 56 * (i / 2)) = 6 + 8 * (i / 2) ∧ m (56 * (i / 2) + (if i % 2 = 0 then 7 else 0)) = 4 + 8 * (i / 2)
theorem sr_2 (kb : zK S bb = 0) (pb : zP S 0 bb = some (bb + 1)) (hm : mCb S bb = m) (hr : (zI S 4 bb).toInt = rt) (hr2 : 0 ≤ rt ∧ rt ≤ 15) : ∀ (n : Nat) (x1 : Int32), (0 ≤ x1.toInt ∧ x1.toInt ≤ 4) → (∀ i, 0 ≤ i → i < x1.toInt → rOk m rt i) → f_X5_hasSoundRights_2 n bb x1 S = some o → (o.1.toInt = 0 ∨ o.1.toInt = 1) ∧ (o.1.toInt = 1 ↔ RTo m rt) := by
  intro n
  induction n with
  | zero => intro x1 _ _ hf; cases hf
  | succ n ih =>
    intro x1 h1 hp hf
    have hf : f_X5_hasSoundRights_2s (f_X5_hasSoundRights_2 n) bb x1 S = some o := hf
    have hl2 : ((strL 2).length : Int) = 4 := rfl
    have no : ¬ rOk m rt x1.toInt → x1.toInt ≤ 3 → f_X5_hasSoundRights_90 S = some o → (o.1.toInt = 0 ∨ o.1.toInt = 1) ∧ (o.1.toInt = 1 ↔ RTo m rt) := fun hn hle hf => by
      unfold f_X5_hasSoundRights_90 at hf
      obtain ⟨-, hf⟩ := m_chkE hf
      cases hf
      exact ⟨Or.inl rfl, fun h => absurd (show (0 : Int32).toInt = 1 from h) (by decide), fun h => absurd (h x1.toInt h1.1 hle) hn⟩
    have ye : rOk m rt x1.toInt → x1.toInt ≤ 3 → f_X5_hasSoundRights_92 (f_X5_hasSoundRights_2 n) bb x1 S = some o → (o.1.toInt = 0 ∨ o.1.toInt = 1) ∧ (o.1.toInt = 1 ↔ RTo m rt) := fun hy hle hf => by
      unfold f_X5_hasSoundRights_92 at hf
      obtain ⟨v1, e1, hf⟩ := m_bndE hf
      have t1 : v1.toInt = x1.toInt + 1 := ti_add e1 rfl (show (1 : Int32).toInt = 1 from rfl) (by omega) (by omega)
      refine ih v1 (by omega) (fun i i0 i1 => ?_) hf
      by_cases e : i = x1.toInt
      · rw [e]; exact hy
      · exact hp i i0 (by omega)
    have run : ∀ x2 x3 t0 : Int32, x1.toInt ≤ 3 → x2.toInt = 8 * (x1.toInt / 2) → x3.toInt = 4 + 56 * (x1.toInt / 2) → t0.toInt = 56 * (x1.toInt / 2) + (if x1.toInt % 2 = 0 then 7 else 0) → f_X5_hasSoundRights_50 (f_X5_hasSoundRights_2 n) bb x1 x2 x3 t0 S = some o → (o.1.toInt = 0 ∨ o.1.toInt = 1) ∧ (o.1.toInt = 1 ↔ RTo m rt) := by
      intro x2 x3 t0 hle h2 h3 h0 hf
      have b0 : 0 ≤ t0.toInt ∧ t0.toInt < 64 := by rw [h0]; split <;> omega
      unfold f_X5_hasSoundRights_50 at hf
      obtain ⟨-, hf⟩ := m_chkE hf
      obtain ⟨v1, e1, hf⟩ := m_bndE hf
      obtain ⟨v2, e2, hf⟩ := m_bndE hf
      have q2 := sh_rb e1 e2 (by rw [hr]; exact hr2) (by omega)
      rw [hr] at q2
      rcases m_ifE hf with ⟨c1, hf⟩ | ⟨c1, hf⟩
      · have yb := q2.1 (by rw [c1]; rfl)
        obtain ⟨-, hf⟩ := m_chkE hf
        replace hf := m_calY hf pb
        obtain ⟨-, hf⟩ := m_chkE hf
        obtain ⟨-, hf⟩ := m_chkE hf
        obtain ⟨v4, e4, hf⟩ := m_bndE hf
        have q4 := mB_at (b := bb) pb e4 (by omega) (by omega)
        rw [hm, h3] at q4
        obtain ⟨v5, e5, hf⟩ := m_bndE hf
        have t5 : v5.toInt = 6 + x2.toInt := ti_add e5 (show (6 : Int32).toInt = 6 from rfl) rfl (by omega) (by omega)
        rcases m_ifE hf with ⟨c2, hf⟩ | ⟨c2, hf⟩
        · replace c2 := ti_eqP (a := v4) (b := v5) c2 rfl rfl
          obtain ⟨-, hf⟩ := m_chkE hf
          replace hf := m_calY hf pb
          obtain ⟨-, hf⟩ := m_chkE hf
          obtain ⟨-, hf⟩ := m_chkE hf
          obtain ⟨v7, e7, hf⟩ := m_bndE hf
          have q7 := mB_at (b := bb) pb e7 b0.1 b0.2
          rw [hm, h0] at q7
          obtain ⟨v8, e8, hf⟩ := m_bndE hf
          have t8 : v8.toInt = 4 + x2.toInt := ti_add e8 (show (4 : Int32).toInt = 4 from rfl) rfl (by omega) (by omega)
          rcases m_ifE hf with ⟨c3, hf⟩ | ⟨c3, hf⟩
          · replace c3 := ti_eqP (a := v7) (b := v8) c3 rfl rfl
            exact ye (fun _ => ⟨by omega, by omega⟩) hle hf
          · replace c3 := ti_eqN (a := v7) (b := v8) c3 rfl rfl
            exact no (fun h => by have := (h yb).2; omega) hle hf
        · replace c2 := ti_eqN (a := v4) (b := v5) c2 rfl rfl
          exact no (fun h => by have := (h yb).1; omega) hle hf
      · exact ye (fun h => absurd (Int32.toInt_inj.1 (q2.2 h)) c1) hle hf
    have mid : ∀ x2 : Int32, x1.toInt ≤ 3 → x2.toInt = 8 * (x1.toInt / 2) → f_X5_hasSoundRights_22 (f_X5_hasSoundRights_2 n) bb x1 x2 S = some o → (o.1.toInt = 0 ∨ o.1.toInt = 1) ∧ (o.1.toInt = 1 ↔ RTo m rt) := by
      intro x2 hle h2 hf
      have fin : ∀ t0 : Int32, t0.toInt = 4 + 56 * (x1.toInt / 2) → f_X5_hasSoundRights_34 (f_X5_hasSoundRights_2 n) bb x1 x2 t0 S = some o → (o.1.toInt = 0 ∨ o.1.toInt = 1) ∧ (o.1.toInt = 1 ↔ RTo m rt) := by
        intro t0 ht hf
        unfold f_X5_hasSoundRights_34 at hf
        obtain ⟨v1, e1, hf⟩ := m_bndE hf
        have t1 : v1.toInt = x1.toInt % 2 := ti_rem e1 rfl (show (2 : Int32).toInt = 2 from rfl) (by omega) (by decide)
        rcases m_ifE hf with ⟨c1, hf⟩ | ⟨c1, hf⟩
        · replace c1 := ti_eqP (a := v1) (b := (0 : Int32)) c1 rfl (show (0 : Int32).toInt = 0 from rfl)
          obtain ⟨v3, e3, hf⟩ := m_bndE hf
          have t3 : v3.toInt = t0.toInt + 3 := ti_add e3 rfl (show (3 : Int32).toInt = 3 from rfl) (by omega) (by omega)
          exact run x2 t0 v3 hle h2 ht (by rw [if_pos (by omega)]; omega) hf
        · replace c1 := ti_eqN (a := v1) (b := (0 : Int32)) c1 rfl (show (0 : Int32).toInt = 0 from rfl)
          obtain ⟨v2, e2, hf⟩ := m_bndE hf
          have t2 : v2.toInt = t0.toInt - 4 := ti_sub e2 rfl (show (4 : Int32).toInt = 4 from rfl) (by omega) (by omega)
          exact run x2 t0 v2 hle h2 ht (by rw [if_neg (by omega)]; omega) hf
      unfold f_X5_hasSoundRights_22 at hf
      rcases m_ifE hf with ⟨c1, hf⟩ | ⟨c1, hf⟩
      · replace c1 := ti_leP (a := (2 : Int32)) (b := x1) c1 (show (2 : Int32).toInt = 2 from rfl) rfl
        exact fin 60 (by have z : (60 : Int32).toInt = 60 := rfl; omega) hf
      · replace c1 := ti_leN (a := (2 : Int32)) (b := x1) c1 (show (2 : Int32).toInt = 2 from rfl) rfl
        exact fin 4 (by have z : (4 : Int32).toInt = 4 := rfl; omega) hf
    have z8 : (8 : Int32).toInt = 8 := rfl
    have z0 : (0 : Int32).toInt = 0 := rfl
    unfold f_X5_hasSoundRights_2s at hf
    obtain ⟨-, hf⟩ := m_chkE hf
    obtain ⟨r1, h_r1, hf⟩ := m_calR hf (fun _ h => ro_J0_length_8abf5 h)
    dsimp only at hf
    have p_r1 := pc_J0_length_8abf5 h_r1
    dsimp only at p_r1
    have q1 := p_r1.2
    rw [hl2] at q1
    rcases m_ifE hf with ⟨c1, hf⟩ | ⟨c1, hf⟩
    · skip
      replace c1 := ti_leP (a := r1) (b := x1) c1 rfl rfl
      obtain ⟨-, hf⟩ := m_chkE hf
      cases hf
      try dsimp only
      exact ⟨Or.inr rfl, fun _ i i0 i3 => hp i i0 (by omega), fun _ => rfl⟩
    · skip
      replace c1 := ti_leN (a := r1) (b := x1) c1 rfl rfl
      rcases m_ifE hf with ⟨c2, hf⟩ | ⟨c2, hf⟩
      · skip
        replace c2 := ti_leP (a := (2 : Int32)) (b := x1) c2 (show (2 : Int32).toInt = 2 from rfl) rfl
        exact mid 8 (by omega) (by omega) hf
      · skip
        replace c2 := ti_leN (a := (2 : Int32)) (b := x1) c2 (show (2 : Int32).toInt = 2 from rfl) rfl
        exact mid 0 (by omega) (by omega) hf
theorem p_soundPassed (hT : ZT S) (kb : zK S bb = 0) (pb : zP S 0 bb = some (bb + 1)) (hm : mCb S bb = m) (hs : (zI S 3 bb).toInt = sd) (hs2 : sd = 0 ∨ sd = 1) (hps : (zI S 5 bb).toInt = ps) (hps2 : -1 ≤ ps ∧ ps ≤ 63) (hf : f_X5_hasSoundPassed bb S = some o) : (o.1.toInt = 0 ∨ o.1.toInt = 1) ∧ (o.1.toInt = 1 ↔ SPs m sd ps) := by
  have hf : f_X5_hasSoundPassed_0 bb S = some o := hf
  have z1 : (-1 : Int32).toInt = -1 := rfl
  have z0 : (0 : Int32).toInt = 0 := rfl
  have no : ∀ {P : Prop}, ¬ SPs m sd ps → (f_X5_hasSoundPassed_49 S = some o ∨ f_X5_hasSoundPassed_112 S = some o) → (o.1.toInt = 0 ∨ o.1.toInt = 1) ∧ (o.1.toInt = 1 ↔ SPs m sd ps) := by
    intro P hn hf
    rcases hf with hf | hf
    · unfold f_X5_hasSoundPassed_49 at hf
      obtain ⟨-, hf⟩ := m_chkE hf
      cases hf
      exact ⟨Or.inl rfl, fun h => absurd (show (0 : Int32).toInt = 1 from h) (by decide), fun h => absurd h hn⟩
    · unfold f_X5_hasSoundPassed_112 f_X5_hasSoundPassed_113 at hf
      obtain ⟨-, hf⟩ := m_chkE hf
      cases hf
      exact ⟨Or.inl rfl, fun h => absurd (show (0 : Int32).toInt = 1 from h) (by decide), fun h => absurd h hn⟩
  have last : ∀ t0 : Int32, ps ≠ -1 → ps / 8 = 5 - 3 * sd → m ps = 0 → t0.toInt = 16 * sd - 8 → f_X5_hasSoundPassed_62 bb (zI S 5 bb) t0 S = some o → (o.1.toInt = 0 ∨ o.1.toInt = 1) ∧ (o.1.toInt = 1 ↔ SPs m sd ps) := by
    intro t0 hn1 hrk hm0 ht hf
    unfold f_X5_hasSoundPassed_62 at hf
    obtain ⟨-, hf⟩ := m_chkE hf
    replace hf := m_calY hf pb
    obtain ⟨v2, e2, hf⟩ := m_bndE hf
    have t2 : v2.toInt = ps + (16 * sd - 8) := by
      have := ti_add (c := v2) (a := zI S 5 bb) (b := t0) e2 rfl rfl (by omega) (by omega)
      omega
    obtain ⟨-, hf⟩ := m_chkE hf
    obtain ⟨-, hf⟩ := m_chkE hf
    obtain ⟨v3, e3, hf⟩ := m_bndE hf
    have q3 := mB_at (b := bb) pb e3 (by omega) (by omega)
    rw [hm, t2, show ps + (16 * sd - 8) = ps - (8 - 16 * sd) by omega] at q3
    obtain ⟨-, hf⟩ := m_chkE hf
    obtain ⟨v4, e4, hf⟩ := m_bndE hf
    obtain ⟨v5, e5, hf⟩ := m_bndE hf
    obtain ⟨v6, e6, hf⟩ := m_bndE hf
    have t4 : v4.toInt = 1 - sd := ti_sub e4 (show (1 : Int32).toInt = 1 from rfl) hs (by omega) (by omega)
    have t5 : v5.toInt = 8 * v4.toInt := ti_mul e5 (show (8 : Int32).toInt = 8 from rfl) rfl (by omega) (by omega)
    have t6 : v6.toInt = 1 + v5.toInt := ti_add e6 (show (1 : Int32).toInt = 1 from rfl) rfl (by omega) (by omega)
    rcases m_ifE hf with ⟨c3, hf⟩ | ⟨c3, hf⟩
    · replace c3 := ti_eqP (a := v3) (b := v6) c3 rfl rfl
      obtain ⟨-, hf⟩ := m_chkE hf
      replace hf := m_calY hf pb
      obtain ⟨v8, e8, hf⟩ := m_bndE hf
      have t8 : v8.toInt = ps - (16 * sd - 8) := by
        have := ti_sub (c := v8) (a := zI S 5 bb) (b := t0) e8 rfl rfl (by omega) (by omega)
        omega
      obtain ⟨-, hf⟩ := m_chkE hf
      obtain ⟨-, hf⟩ := m_chkE hf
      obtain ⟨v9, e9, hf⟩ := m_bndE hf
      have q9 := mB_at (b := bb) pb e9 (by omega) (by omega)
      rw [hm, t8, show ps - (16 * sd - 8) = ps + (8 - 16 * sd) by omega] at q9
      rcases m_ifE hf with ⟨c4, hf⟩ | ⟨c4, hf⟩
      · replace c4 := ti_eqP (a := v9) (b := (0 : Int32)) c4 rfl rfl
        obtain ⟨-, hf⟩ := m_chkE hf
        obtain ⟨-, hf⟩ := m_chkE hf
        obtain ⟨r10, h10, hf⟩ := m_calR hf (fun _ h => ro_X0_pawnAttacks h)
        obtain ⟨-, b10, q10⟩ := ok_of (y_f_X0_pawnAttacks (x2 := zI S 3 bb) hT kb (by omega) (by omega)) h10
        dsimp only at hf b10 q10
        rw [hm, hps, hs] at q10
        rcases m_ifE hf with ⟨c5, hf⟩ | ⟨c5, hf⟩
        · replace c5 := ti_eqP (a := r10) (b := (0 : Int32)) c5 rfl rfl
          refine no (P := True) (fun h => ?_) (Or.inr hf)
          rcases h with h | h
          · exact hn1 h
          · have := q10.2 h.2.2.2.2; omega
        · replace c5 := ti_eqN (a := r10) (b := (0 : Int32)) c5 rfl rfl
          unfold f_X5_hasSoundPassed_113 at hf
          obtain ⟨-, hf⟩ := m_chkE hf
          cases hf
          exact ⟨Or.inr rfl, fun _ => Or.inr ⟨hrk, hm0, by omega, by omega, q10.1 (by omega)⟩, fun _ => rfl⟩
      · replace c4 := ti_eqN (a := v9) (b := (0 : Int32)) c4 rfl rfl
        refine no (P := True) (fun h => ?_) (Or.inr hf)
        rcases h with h | h
        · exact hn1 h
        · have := h.2.2.2.1; omega
    · replace c3 := ti_eqN (a := v3) (b := v6) c3 rfl rfl
      refine no (P := True) (fun h => ?_) (Or.inr hf)
      rcases h with h | h
      · exact hn1 h
      · have := h.2.2.1; omega
  have mid : ∀ t0 : Int32, ps ≠ -1 → (t0.toInt = 0 ∨ t0.toInt = 1) → (t0.toInt = 1 ↔ sd = 0) → f_X5_hasSoundPassed_24 bb (zI S 5 bb) t0 S = some o → (o.1.toInt = 0 ∨ o.1.toInt = 1) ∧ (o.1.toInt = 1 ↔ SPs m sd ps) := by
    intro t0 hn1 ht ht2 hf
    unfold f_X5_hasSoundPassed_24 at hf
    obtain ⟨v1, e1, hf⟩ := m_bndE hf
    have t1 : v1.toInt = ps / 8 := by rw [← hps]; exact b_sh3 e1 (by omega)
    have fin : ∀ u : Int32, u.toInt = 5 - 3 * sd → f_X5_hasSoundPassed_37 bb (zI S 5 bb) t0 u v1 S = some o → (o.1.toInt = 0 ∨ o.1.toInt = 1) ∧ (o.1.toInt = 1 ↔ SPs m sd ps) := by
      intro u hu hf
      unfold f_X5_hasSoundPassed_37 at hf
      rcases m_ifE hf with ⟨c1, hf⟩ | ⟨c1, hf⟩
      · replace c1 := ti_eqP (a := v1) (b := u) c1 rfl rfl
        obtain ⟨-, hf⟩ := m_chkE hf
        replace hf := m_calY hf pb
        obtain ⟨-, hf⟩ := m_chkE hf
        obtain ⟨-, hf⟩ := m_chkE hf
        obtain ⟨v2, e2, hf⟩ := m_bndE hf
        have q2 := mB_at (b := bb) pb e2 (by omega) (by omega)
        rw [hm, hps] at q2
        rcases m_ifE hf with ⟨c2, hf⟩ | ⟨c2, hf⟩
        · replace c2 := ti_eqP (a := v2) (b := (0 : Int32)) c2 rfl rfl
          rcases m_ifE hf with ⟨c3, hf⟩ | ⟨c3, hf⟩
          · replace c3 := ti_eqP (a := t0) (b := (0 : Int32)) c3 rfl rfl
            have : sd = 1 := by omega
            exact last 8 hn1 (by omega) (by omega) (by have z : (8 : Int32).toInt = 8 := rfl; omega) hf
          · replace c3 := ti_eqN (a := t0) (b := (0 : Int32)) c3 rfl rfl
            have : sd = 0 := ht2.1 (by omega)
            exact last (-8) hn1 (by omega) (by omega) (by have z : (-8 : Int32).toInt = -8 := rfl; omega) hf
        · replace c2 := ti_eqN (a := v2) (b := (0 : Int32)) c2 rfl rfl
          refine no (P := True) (fun h => ?_) (Or.inl hf)
          rcases h with h | h
          · exact hn1 h
          · have := h.2.1; omega
      · replace c1 := ti_eqN (a := v1) (b := u) c1 rfl rfl
        refine no (P := True) (fun h => ?_) (Or.inl hf)
        rcases h with h | h
        · exact hn1 h
        · have := h.1; omega
    rcases m_ifE hf with ⟨c, hf⟩ | ⟨c, hf⟩
    · replace c := ti_eqP (a := t0) (b := (0 : Int32)) c rfl rfl
      exact fin 2 (by have z : (2 : Int32).toInt = 2 := rfl; omega) hf
    · replace c := ti_eqN (a := t0) (b := (0 : Int32)) c rfl rfl
      exact fin 5 (by have z : (5 : Int32).toInt = 5 := rfl; have := ht2.1 (by omega); omega) hf
  unfold f_X5_hasSoundPassed_0 at hf
  obtain ⟨-, hf⟩ := m_chkE hf
  rcases m_ifE hf with ⟨c1, hf⟩ | ⟨c1, hf⟩
  · skip
    replace c1 := ti_eqP (a := (zI S 5 bb)) (b := (-1 : Int32)) c1 rfl (show (-1 : Int32).toInt = -1 from rfl)
    obtain ⟨-, hf⟩ := m_chkE hf
    cases hf
    try dsimp only
    exact ⟨Or.inr rfl, fun _ => Or.inl (by omega), fun _ => rfl⟩
  · skip
    replace c1 := ti_eqN (a := (zI S 5 bb)) (b := (-1 : Int32)) c1 rfl (show (-1 : Int32).toInt = -1 from rfl)
    obtain ⟨-, hf⟩ := m_chkE hf
    rcases m_ifE hf with ⟨c2, hf⟩ | ⟨c2, hf⟩
    · skip
      replace c2 := ti_eqP (a := (zI S 3 bb)) (b := (0 : Int32)) c2 rfl (show (0 : Int32).toInt = 0 from rfl)
      exact mid 1 (by omega) (Or.inr rfl) ⟨fun _ => by omega, fun _ => rfl⟩ hf
    · skip
      replace c2 := ti_eqN (a := (zI S 3 bb)) (b := (0 : Int32)) c2 rfl (show (0 : Int32).toInt = 0 from rfl)
      exact mid 0 (by omega) (Or.inl rfl) ⟨fun h => absurd h (by decide), fun h => by omega⟩ hf
end SND
