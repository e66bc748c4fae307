/-- the gap that the class writes -/
def gpW (w : List Int) : List Int := if wA w ((w.length : Int) - 1) = 0 ∨ wA w ((w.length : Int) - 1) = 10 ∨ wA w ((w.length : Int) - 1) = 40 then [] else [32]
theorem gp_app {w l : List Int} (hl : l ≠ []) : gpW (w ++ l) = gpW l := by
  have h1 : 1 ≤ l.length := by
    cases l with
    | nil => exact absurd rfl hl
    | cons a l => exact Nat.succ_le_succ (Nat.zero_le _)
  have e : wA (w ++ l) (((w ++ l).length : Int) - 1) = wA l ((l.length : Int) - 1) := by
    rw [List.length_append, wA_r (by omega)]
    congr 1
    omega
  unfold gpW
  rw [e]
theorem gp_1 {w : List Int} {c : Int} (h : c ≠ 0 ∧ c ≠ 10 ∧ c ≠ 40) : gpW (w ++ [c]) = [32] := by
  rw [gp_app (by simp)]
  have e : wA [c] ((([c] : List Int).length : Int) - 1) = c := rfl
  unfold gpW
  rw [e]
  exact if_neg (fun q => q.elim h.1 (fun q => q.elim h.2.1 h.2.2))
theorem gp_0 : gpW [] = [] := rfl
theorem gp_40 {w : List Int} : gpW (w ++ [40]) = [] := by rw [gp_app (by simp)]; rfl
theorem gp_10 {w : List Int} : gpW (w ++ [10]) = [] := by rw [gp_app (by simp)]; rfl
theorem gp_d1 {w : List Int} {v : Int} : gpW (w ++ d1W v) = [32] := gp_1 (by omega)
theorem gp_nm {w : List Int} {v : Int} : gpW (w ++ nmW v) = [32] := by
  have e2 : ∀ w : List Int, gpW (w ++ d2W v) = [32] := fun w => by
    have e : w ++ d2W v = (w ++ [48 + v / 10 % 10]) ++ d1W v := by
      rw [List.append_assoc]; rfl
    rw [e]; exact gp_d1
  have e3 : ∀ w : List Int, gpW (w ++ d3W v) = [32] := fun w => by
    have e : w ++ d3W v = (w ++ [48 + v / 100 % 10]) ++ d2W v := by
      rw [List.append_assoc]; rfl
    rw [e]; exact e2 _
  have e4 : ∀ w : List Int, gpW (w ++ d4W v) = [32] := fun w => by
    have e : w ++ d4W v = (w ++ [48 + v / 1000 % 10]) ++ d3W v := by
      rw [List.append_assoc]; rfl
    rw [e]; exact e3 _
  unfold nmW
  by_cases h1 : v < 10
  · rw [if_pos h1]; exact gp_d1
  · rw [if_neg h1]
    by_cases h2 : v < 100
    · rw [if_pos h2]; exact e2 _
    · rw [if_neg h2]
      by_cases h3 : v < 1000
      · rw [if_pos h3]; exact e3 _
      · rw [if_neg h3]; exact e4 _
theorem gp_rm {w r : List Int} : gpW (w ++ rmW r) = [32] := by
  have e : w ++ rmW r = (w ++ ([123] ++ r)) ++ [125] := by
    unfold rmW
    simp
  rw [e]
  exact gp_1 (by decide)
theorem gp_e5 {w a1 a2 a3 a4 : List Int} {x y : Int} (h : y ≠ 0 ∧ y ≠ 10 ∧ y ≠ 40) : gpW (w ++ (a1 ++ (a2 ++ (a3 ++ (a4 ++ ([x, y] ++ [])))))) = [32] := by
  have e : w ++ (a1 ++ (a2 ++ (a3 ++ (a4 ++ ([x, y] ++ []))))) = (w ++ (a1 ++ (a2 ++ (a3 ++ (a4 ++ [x]))))) ++ [y] := by simp
  rw [e]
  exact gp_1 h
theorem gp_e7 {w a1 a2 a3 a4 : List Int} {x y u z : Int} (h : z ≠ 0 ∧ z ≠ 10 ∧ z ≠ 40) : gpW (w ++ (a1 ++ (a2 ++ (a3 ++ (a4 ++ ([x, y] ++ [u, z])))))) = [32] := by
  have e : w ++ (a1 ++ (a2 ++ (a3 ++ (a4 ++ ([x, y] ++ [u, z]))))) = (w ++ (a1 ++ (a2 ++ (a3 ++ (a4 ++ [x, y, u]))))) ++ [z] := by simp
  rw [e]
  exact gp_1 h
theorem gp_sg {w : List Int} {P : PO} {x ck : Int} (hc : ck = 0 ∨ ck = 43 ∨ ck = 35) (hx : 0 ≤ x) : gpW (w ++ sgW P x ck) = [32] := by
  have hs : gpW (w ++ spW (om P) x (apW P x) (tkV P (x % 64) (x / 64 % 64))) = [32] := by
    unfold spW
    by_cases h : om P (x % 64) % 8 = 6 ∧ (x / 64 % 64 = x % 64 + 2 ∨ x / 64 % 64 = x % 64 - 2)
    · rw [if_pos h]
      have k7 : strL 7 ≠ [] ∧ gpW (strL 7) = [32] := by decide +kernel
      have k8 : strL 8 ≠ [] ∧ gpW (strL 8) = [32] := by decide +kernel
      by_cases h2 : x % 64 < x / 64 % 64
      · rw [if_pos h2, gp_app k7.1]; exact k7.2
      · rw [if_neg h2, gp_app k8.1]; exact k8.2
    · rw [if_neg h]
      unfold rend
      by_cases h3 : 2 ≤ x / 4096
      · rw [if_pos h3]
        refine gp_e7 ?_
        unfold ltK
        repeat' split
        all_goals decide
      · rw [if_neg h3]
        exact gp_e5 (by omega)
  unfold sgW ckL
  by_cases h0 : ck = 0
  · rw [if_pos h0, List.append_nil]; exact hs
  · rw [if_neg h0, ← List.append_assoc]
    exact gp_1 (by omega)
theorem csP_ex {m : Int → Int} {sd rt ps kw kb : Int} : ∃ v, csP m sd rt ps kw kb v := by
  unfold csP
  by_cases h : attd m (if sd = 0 then kw else kb) (1 - sd)
  · by_cases h2 : ANY m sd rt ps kw kb
    · exact ⟨43, Or.inr (Or.inl ⟨h, h2, rfl⟩)⟩
    · exact ⟨35, Or.inr (Or.inr ⟨h, h2, rfl⟩)⟩
  · exact ⟨0, Or.inl ⟨h, rfl⟩⟩
theorem cs_ex {P : PO} {x : Int} : ∃ c, csF (om P) (osd P) (ort P) (ops P) (okw P) (okb P) x c := by
  unfold csF
  exact csP_ex
theorem ck_b {P : PO} {x : Int} : ckE P x = 0 ∨ ckE P x = 43 ∨ ckE P x = 35 := by
  obtain ⟨c, hc⟩ := cs_ex (P := P) (x := x)
  have e : c = ckE P x := csF_u hc (Classical.epsilon_spec (p := fun c => csF (om P) (osd P) (ort P) (ops P) (okw P) (okb P) x c) ⟨c, hc⟩)
  rw [← e]
  rcases hc with ⟨-, h⟩ | ⟨-, -, h⟩ | ⟨-, -, h⟩
  · exact Or.inl h
  · exact Or.inr (Or.inl h)
  · exact Or.inr (Or.inr h)
theorem gp_mk {w : List Int} (h : gpW w = [32]) : ∀ K : List Int, gpW (w ++ mkW K) = [32] := by
  intro K
  induction K generalizing w with
  | nil =>
    have e : w ++ mkW [] = w := List.append_nil w
    rw [e]; exact h
  | cons m K ih =>
    have e : w ++ mkW (m :: K) = (w ++ [32] ++ [36] ++ nmW m) ++ mkW K := by
      unfold mkW
      rw [List.flatMap_cons]
      simp
    rw [e]
    exact ih gp_nm
theorem gp_mv {w : List Int} {st : PO} {T : TRa} {k : Nat} {fr : Bool} (hx : 0 ≤ tM T k) : gpW (w ++ mvT st T k fr) = [32] := by
  unfold mvT mvX
  generalize (if osd (posT st T (tP T k).toNat) = 0 ∨ fr = true then nmW (onb (posT st T (tP T k).toNat)) ++ ((if osd (posT st T (tP T k).toNat) = 0 then [46] else [46, 46, 46]) ++ [32]) else []) = a
  have g1 : gpW ((w ++ a) ++ sgP (posT st T (tP T k).toNat) (tM T k)) = [32] := gp_sg ck_b hx
  have g2 := gp_mk g1 (tK T k)
  by_cases e : tR T k = []
  · have er : rkW (tR T k) = [] := if_pos e
    rw [er, List.append_nil]
    simp only [List.append_assoc] at g2 ⊢
    exact g2
  · have er : rkW (tR T k) = [32] ++ rmW (tR T k) := if_neg e
    rw [er]
    have e2 : w ++ (a ++ (sgP (posT st T (tP T k).toNat) (tM T k) ++ (mkW (tK T k) ++ ([32] ++ rmW (tR T k))))) = (w ++ (a ++ (sgP (posT st T (tP T k).toNat) (tM T k) ++ (mkW (tK T k) ++ [32])))) ++ rmW (tR T k) := by simp only [List.append_assoc]
    rw [e2]
    exact gp_rm
section WCR
variable {S0 S S' : ZS} {bb n b : Nat} {P : PO} {w u K r : List Int} {x1 x2 x3 x5 y c : Int32} {o : Int32 × ZS} {v : Int}
theorem pc_gap (hb : 84 < bb) (h : PSt S0 S 78 bb P w) (hl : w.length ≤ 89000) (hf : d_X3_putGap 3 S = some o) : PSt S0 o.2 78 bb P (w ++ gpW w) := by
  have hf : d_X3_putGap_0 3 S = some o := hf
  unfold d_X3_putGap_0 d_X3_putGap_33 at hf
  have rl := h.2.2.2.1
  obtain ⟨-, hf⟩ := m_chkE hf
  obtain ⟨⟨y1, S1⟩, h_1, hf⟩ := m_calE hf
  have q1 := pc_X6_size h_1
  have e1 : S1 = S := ro_X6_size h_1
  obtain ⟨-, hf⟩ := m_chkE hf
  dsimp only at q1 hf
  rw [e1] at hf
  have t1 : y1.toInt = (w.length : Int) := by rw [q1]; exact rl.1
  obtain ⟨v2, e2, hf⟩ := m_bndE hf
  have t2 : v2.toInt = (w.length : Int) - 1 := by
    have : v2.toInt = y1.toInt - 1 := ti_sub e2 rfl (show (1 : Int32).toInt = 1 from rfl) (by omega) (by omega)
    omega
  obtain ⟨-, hf⟩ := m_chkE hf
  obtain ⟨⟨y3, S3⟩, h_3, hf⟩ := m_calE hf
  have q3 := pc_X6_at h_3
  have e3 : S3 = S := ro_X6_at h_3
  obtain ⟨-, hf⟩ := m_chkE hf
  dsimp only at q3 hf
  rw [e3] at hf
  rw [rl.2, t2] at q3
  have no : (y3 = 0 ∨ y3 = 10 ∨ y3 = 40) → (some (0, S) : Option (Int32 × ZS)) = some o → PSt S0 o.2 78 bb P (w ++ gpW w) := fun hc hh => by
    have eo := (Option.some.inj hh).symm
    have e : gpW w = [] := by
      unfold gpW
      rw [← q3]
      rcases hc with e | e | e
      · rw [e]; exact if_pos (Or.inl rfl)
      · rw [e]; exact if_pos (Or.inr (Or.inl rfl))
      · rw [e]; exact if_pos (Or.inr (Or.inr rfl))
    rw [eo, e, List.append_nil]
    exact h
  rcases m_ifE hf with ⟨d, hf⟩ | ⟨d0, hf⟩
  · exact no (Or.inl d) hf
  rcases m_ifE hf with ⟨d, hf⟩ | ⟨d1, hf⟩
  · exact no (Or.inr (Or.inl d)) hf
  rcases m_ifE hf with ⟨d, hf⟩ | ⟨d2, hf⟩
  · exact no (Or.inr (Or.inr d)) hf
  obtain ⟨-, hf⟩ := m_chkE hf
  obtain ⟨⟨r5, S6⟩, h_5, hf⟩ := m_cal2E hf
  have P6 := ps_put (Or.inr rfl) hb h (by omega) (by decide) h_5
  have e : gpW w = [32] := by
    unfold gpW
    rw [← q3]
    exact if_neg (fun q => q.elim (fun q => d0 (i32_of q)) (fun q => q.elim (fun q => d1 (i32_of q)) (fun q => d2 (i32_of q))))
  have eo := (Option.some.inj hf).symm
  rw [eo, e]
  exact P6
theorem pn_29 (hb : 84 < bb) (hv : 0 ≤ v ∧ v ≤ 9999) (h1 : x1.toInt = v) : ∀ (n : Nat) (x2 : Int32) (S : ZS) (w : List Int), UNt x2.toInt → w.length + (dgU x2.toInt v).length ≤ 89000 → PSt S0 S 78 bb P w → d_X6_putNumber_29 n 3 x1 x2 S = some o → PSt S0 o.2 78 bb P (w ++ dgU x2.toInt v) := by
  have z0 : (0 : Int32).toInt = 0 := rfl
  have z10 : (10 : Int32).toInt = 10 := rfl
  intro n
  induction n with
  | zero => intro x2 S w _ _ _ hf; cases hf
  | succ n ih =>
    intro x2 S w hu hl h hf
    have hf : d_X6_putNumber_29s (d_X6_putNumber_29 n) 3 x1 x2 S = some o := hf
    unfold d_X6_putNumber_29s at hf
    rcases m_ifE hf with ⟨d, hf⟩ | ⟨d, hf⟩
    · replace d := ti_leP (a := x2) (b := (0 : Int32)) d rfl z0
      have e0 : x2.toInt = 0 := by unfold UNt at hu; omega
      have eo := (Option.some.inj hf).symm
      rw [eo, e0]
      show PSt S0 S 78 bb P (w ++ [])
      rw [List.append_nil]; exact h
    · replace d := ti_leN (a := x2) (b := (0 : Int32)) d rfl z0
      obtain ⟨-, hf⟩ := m_chkE hf
      obtain ⟨v1, e1, hf⟩ := m_bndE hf
      have t1 : v1.toInt = v / x2.toInt := ti_div e1 h1 rfl hv.1 d
      have q1 : 0 ≤ v / x2.toInt := Int.ediv_nonneg hv.1 (by omega)
      obtain ⟨v2, e2, hf⟩ := m_bndE hf
      have t2 : v2.toInt = v / x2.toInt % 10 := ti_rem e2 t1 z10 q1 (by decide)
      have b2 : 0 ≤ v / x2.toInt % 10 ∧ v / x2.toInt % 10 < 10 := ⟨Int.emod_nonneg _ (by decide), Int.emod_lt_of_pos _ (by decide)⟩
      obtain ⟨v3, e3, hf⟩ := m_bndE hf
      have t3 : v3.toInt = 48 + v / x2.toInt % 10 := ti_add e3 (show (48 : Int32).toInt = 48 from rfl) t2 (by omega) (by omega)
      obtain ⟨v4, e4, hf⟩ := m_bndE hf
      have t4 : v4.toInt = 48 + v / x2.toInt % 10 := by rw [e4]; exact nar_ci t3 (by omega) (by omega)
      obtain ⟨-, hf⟩ := m_chkE hf
      obtain ⟨⟨r6, S7⟩, h_6, hf⟩ := m_cal2E hf
      obtain ⟨u6, g6⟩ := dgu_s (v := v) hu d
      rw [g6, List.length_append] at hl
      have hl : w.length + (1 + (dgU (x2.toInt / 10) v).length) ≤ 89000 := hl
      have P7 := ps_put (Or.inr rfl) hb h (by omega) (by omega) h_6
      dsimp only at hf
      obtain ⟨v10, e10, hf⟩ := m_bndE hf
      have t10 : v10.toInt = x2.toInt / 10 := ti_div e10 rfl z10 (by omega) (by decide)
      have q := ih v10 S7 _ (by rw [t10]; exact u6) (by rw [List.length_append, t10]; show w.length + 1 + _ ≤ _; omega) P7 hf
      rw [t10, t4, List.append_assoc, ← g6] at q
      exact q
theorem nm_l : (nmW v).length ≤ 4 := by
  unfold nmW
  by_cases h1 : v < 10
  · rw [if_pos h1]; show 1 ≤ 4; decide
  · rw [if_neg h1]
    by_cases h2 : v < 100
    · rw [if_pos h2]; show 2 ≤ 4; decide
    · rw [if_neg h2]
      by_cases h3 : v < 1000
      · rw [if_pos h3]; show 3 ≤ 4; decide
      · rw [if_neg h3]; show 4 ≤ 4; decide
theorem pn_4 (hb : 84 < bb) (hv : 0 ≤ v ∧ v ≤ 9999) (h1 : x1.toInt = v) (hl : w.length ≤ 88900) (h : PSt S0 S 78 bb P w) : ∀ (n : Nat) (x2 x3 : Int32), ((x2.toInt = 1 ∧ x3.toInt = 0) ∨ (x2.toInt = 10 ∧ x3.toInt = 1) ∨ (x2.toInt = 100 ∧ x3.toInt = 2) ∨ (x2.toInt = 1000 ∧ x3.toInt = 3)) → (x2.toInt = 1 ∨ x2.toInt ≤ v) → d_X6_putNumber_4 n 3 x1 x2 x3 S = some o → PSt S0 o.2 78 bb P (w ++ nmW v) := by
  have z9 : (9 : Int32).toInt = 9 := rfl
  have z10 : (10 : Int32).toInt = 10 := rfl
  intro n
  induction n with
  | zero => intro x2 x3 _ _ hf; cases hf
  | succ n ih =>
    intro x2 x3 hu hle hf
    have hf : d_X6_putNumber_4s (d_X6_putNumber_4 n) 3 x1 x2 x3 S = some o := hf
    unfold d_X6_putNumber_4s at hf
    rcases m_ifE hf with ⟨d, -⟩ | ⟨-, hf⟩
    · replace d := ti_leP (a := (9 : Int32)) (b := x3) d z9 rfl
      omega
    · obtain ⟨-, hf⟩ := m_chkE hf
      obtain ⟨v1, e1, hf⟩ := m_bndE hf
      have t1 : v1.toInt = v / x2.toInt := ti_div e1 h1 rfl hv.1 (by omega)
      have key : v / x2.toInt < 10 ↔ v < x2.toInt * 10 := by
        rcases hu with ⟨e, -⟩ | ⟨e, -⟩ | ⟨e, -⟩ | ⟨e, -⟩ <;> rw [e] <;> omega
      rcases m_ifE hf with ⟨d, hf⟩ | ⟨d, hf⟩
      · replace d := ti_ltP (a := v1) (b := (10 : Int32)) d t1 z10
        have dd := key.1 d
        clear key
        have en : nmW v = dgU x2.toInt v := nmu_u (by omega) hle dd
        have nl : (nmW v).length ≤ 4 := nm_l
        rw [en] at nl ⊢
        exact pn_29 hb hv h1 mFuel x2 S w (by unfold UNt; omega) (by omega) h hf
      · replace d := ti_ltN (a := v1) (b := (10 : Int32)) d t1 z10
        have d' : ¬ v < x2.toInt * 10 := fun e => absurd (key.2 e) (Int.not_lt.mpr d)
        clear key
        obtain ⟨v2, e2, hf⟩ := m_bndE hf
        obtain ⟨v3, e3, hf⟩ := m_bndE hf
        have t2 : v2.toInt = x2.toInt * 10 := ti_mul e2 rfl z10 (by omega) (by omega)
        have t3 : v3.toInt = x3.toInt + 1 := ti_add e3 rfl (show (1 : Int32).toInt = 1 from rfl) (by omega) (by omega)
        exact ih v2 v3 (by omega) (by omega) hf
theorem pc_num (hb : 84 < bb) (hv : 0 ≤ v ∧ v ≤ 9999) (h1 : x1.toInt = v) (hl : w.length ≤ 88900) (h : PSt S0 S 78 bb P w) (hf : d_X6_putNumber 3 x1 S = some o) : PSt S0 o.2 78 bb P (w ++ nmW v) := pn_4 hb hv h1 hl h mFuel 1 0 (Or.inl ⟨rfl, rfl⟩) (Or.inl rfl) hf
theorem pc_txt (hb : 84 < bb) {k : Nat} (hs : (strL k).length ≤ 20) (hc : ∀ c ∈ strL k, 0 ≤ c ∧ c ≤ 65535) (hl : w.length ≤ 88900) (h : PSt S0 S 78 bb P w) (hf : d_X6_putText 3 k S = some o) : PSt S0 o.2 78 bb P (w ++ strL k) :=
  pt_2 (S0 := S0) (P := P) (w := w) (k := k) (Or.inr rfl) hb (by omega) hs hc mFuel 0 S 0 rfl (Nat.zero_le _) (by rw [List.take_zero, List.append_nil]; exact h) hf
/-- a row that the writer leaves alone -/
theorem ps_row (h : PSt S0 S 78 bb P w) (k : zK S0 b = 6) (hb3 : b ≠ 3) (X0 : FIX S0) (hr : RWL S0 b u) : zK S b = 6 ∧ RWL S b u := by
  obtain ⟨-, -, -, -, F⟩ := h
  have ne : ¬ (b = 3 ∨ (78 + 2 ≤ b ∧ b ≤ 78 + 5)) := by
    rintro (e | ⟨e1, e2⟩)
    · exact hb3 e
    · rcases (show b = 80 ∨ b = 81 ∨ b = 82 ∨ b = 83 by omega) with e | e | e | e <;> rw [e, fx_k X0 (by decide) (by decide)] at k <;> exact absurd k (by decide)
  have e := fr_e F (by rw [k]; decide) ne
  exact ⟨e.1.trans k, eqc_rl e k hr⟩
theorem pl_2 (hb : 84 < bb) (X0 : FIX S0) (k : zK S0 b = 6) (hb3 : b ≠ 3) (hr : RWL S0 b u) (hu : u.length ≤ 200) (hcu : ∀ i, 0 ≤ wA u i ∧ wA u i ≤ 65535) (hl : w.length ≤ 88000) : ∀ (n : Nat) (x2 : Int32) (S : ZS) (j : Nat), x2.toInt = (j : Int) → j ≤ u.length → PSt S0 S 78 bb P (w ++ u.take j) → d_X6_putAll_2 n 3 b x2 S = some o → PSt S0 o.2 78 bb P (w ++ u) := by
  intro n
  induction n with
  | zero => intro x2 S j _ _ _ hf; cases hf
  | succ n ih =>
    intro x2 S j hx hj h hf
    have hf : d_X6_putAll_2s (d_X6_putAll_2 n) 3 b x2 S = some o := hf
    obtain ⟨kS, rS⟩ := ps_row h k hb3 X0 hr
    unfold d_X6_putAll_2s at hf
    obtain ⟨-, hf⟩ := m_chkE hf
    have l1 := rS.1
    rcases m_ifE hf with ⟨d, hf⟩ | ⟨d, hf⟩
    · replace d := ti_leP (a := zI S 1 b) (b := x2) d rfl rfl
      have ej : j = u.length := by omega
      rw [ej, List.take_length] at h
      have eo := (Option.some.inj hf).symm
      rw [eo]; exact h
    · replace d := ti_leN (a := zI S 1 b) (b := x2) d rfl rfl
      have jl : j < u.length := by omega
      obtain ⟨-, hf⟩ := m_chkE hf
      obtain ⟨⟨y1, S1⟩, h_1, hf⟩ := m_calE hf
      have q1 := pc_X6_at h_1
      have e1 : S1 = S := ro_X6_at h_1
      obtain ⟨-, hf⟩ := m_chkE hf
      dsimp only at q1 hf
      rw [e1] at hf
      rw [rS.2, hx] at q1
      obtain ⟨-, hf⟩ := m_chkE hf
      obtain ⟨⟨r3, S4⟩, h_3, hf⟩ := m_cal2E hf
      have lt : (u.take j).length ≤ 200 := by rw [List.length_take]; omega
      have P4 := ps_put (Or.inr rfl) hb h (by rw [List.length_append]; omega) (by rw [q1]; exact hcu _) h_3
      dsimp only at hf
      rw [q1, List.append_assoc, take_s jl] at P4
      obtain ⟨v7, e7, hf⟩ := m_bndE hf
      have t7 : v7.toInt = x2.toInt + 1 := ti_add e7 rfl (show (1 : Int32).toInt = 1 from rfl) (by omega) (by omega)
      exact ih v7 S4 (j + 1) (by omega) (by omega) P4 hf
theorem pc_all (hb : 84 < bb) (X0 : FIX S0) (k : zK S0 b = 6) (hb3 : b ≠ 3) (hr : RWL S0 b u) (hu : u.length ≤ 200) (hcu : ∀ i, 0 ≤ wA u i ∧ wA u i ≤ 65535) (hl : w.length ≤ 88000) (h : PSt S0 S 78 bb P w) (hf : d_X6_putAll 3 b S = some o) : PSt S0 o.2 78 bb P (w ++ u) :=
  pl_2 hb X0 k hb3 hr hu hcu hl mFuel 0 S 0 rfl (Nat.zero_le _) (by rw [List.take_zero, List.append_nil]; exact h) hf
/-- a node for the writer -/
def NDw (S : ZS) (n : Nat) (r : List Int) : Prop := zK S n = 4 ∧ zP S 6 n = some (n + 1) ∧ zK S (n + 1) = 6 ∧ n + 1 ≠ 3 ∧ RWL S (n + 1) r ∧ r.length ≤ 200 ∧ ∀ i, 0 ≤ wA r i ∧ wA r i ≤ 65535
theorem ndw_e (h : PSt S0 S 78 bb P w) (X0 : FIX S0) (k : zK S0 n = 4) : EQc S0 S n := by
  obtain ⟨-, -, -, -, F⟩ := h
  refine fr_e F (by rw [k]; decide) ?_
  rintro (e | ⟨e1, e2⟩)
  · rw [e, fx_k X0 (by decide) (by decide)] at k
    exact absurd k (by decide)
  · rcases (show n = 80 ∨ n = 81 ∨ n = 82 ∨ n = 83 by omega) with e | e | e | e <;> rw [e, fx_k X0 (by decide) (by decide)] at k <;> exact absurd k (by decide)
theorem pc_rem (hb : 84 < bb) (X0 : FIX S0) (hN : NDw S0 n r) (hl : w.length ≤ 87000) (h : PSt S0 S 78 bb P w) (hf : d_X3_putRemark n 3 S = some o) : PSt S0 o.2 78 bb P (w ++ (if r = [] then [] else gpW w ++ rmW r)) := by
  obtain ⟨k4, p6, k6, n3, hr, hrl, hrc⟩ := hN
  have hf : d_X3_putRemark_0 n 3 S = some o := hf
  obtain ⟨kS, rS⟩ := ps_row h k6 n3 X0 hr
  have eS := ndw_e h X0 k4
  unfold d_X3_putRemark_0 at hf
  obtain ⟨-, hf⟩ := m_chkE hf
  replace hf := m_calY hf ((eS.2.2.2.1 6).trans p6)
  obtain ⟨-, hf⟩ := m_chkE hf
  obtain ⟨⟨y2, S2⟩, h_2, hf⟩ := m_calE hf
  have q2 := pc_X6_size h_2
  have e2 : S2 = S := ro_X6_size h_2
  obtain ⟨-, hf⟩ := m_chkE hf
  dsimp only at q2 hf
  rw [e2] at hf
  have t2 : y2.toInt = (r.length : Int) := by rw [q2]; exact rS.1
  rcases m_ifE hf with ⟨d, hf⟩ | ⟨d, hf⟩
  · have e0 : r = [] := List.length_eq_zero_iff.1 (by
      have : y2.toInt = 0 := by rw [d]; rfl
      omega)
    have eo := (Option.some.inj hf).symm
    rw [eo, if_pos e0, List.append_nil]
    exact h
  · have e0 : ¬ r = [] := fun e => by
      rw [e] at t2
      have t2 : y2.toInt = 0 := t2
      exact d (i32_of t2)
    rw [if_neg e0]
    have gl : (gpW w).length ≤ 1 := by
      unfold gpW
      split
      · exact Nat.zero_le _
      · exact Nat.le_refl _
    obtain ⟨⟨r4, S5⟩, h_4, hf⟩ := m_cal2E hf
    have P5 := pc_gap hb h (by omega) h_4
    dsimp only at P5 hf
    obtain ⟨-, hf⟩ := m_chkE hf
    obtain ⟨⟨r9, S10⟩, h_9, hf⟩ := m_cal2E hf
    have P10 := ps_put (Or.inr rfl) hb P5 (by rw [List.length_append]; omega) (by decide) h_9
    dsimp only at P10 hf
    have e10 := ndw_e P10 X0 k4
    obtain ⟨-, hf⟩ := m_chkE hf
    replace hf := m_calY hf ((e10.2.2.2.1 6).trans p6)
    obtain ⟨-, hf⟩ := m_chkE hf
    obtain ⟨⟨r15, S16⟩, h_15, hf⟩ := m_cal2E hf
    have P16 := pc_all hb X0 k6 n3 hr hrl hrc (by rw [List.length_append, List.length_append]; show w.length + _ + 1 ≤ _; omega) P10 h_15
    dsimp only at P16 hf
    obtain ⟨-, hf⟩ := m_chkE hf
    obtain ⟨⟨r20, S21⟩, h_20, hf⟩ := m_cal2E hf
    have P21 := ps_put (Or.inr rfl) hb P16 (by rw [List.length_append, List.length_append, List.length_append]; show w.length + _ + 1 + _ ≤ _; omega) (by decide) h_20
    have eo := (Option.some.inj hf).symm
    rw [eo]
    have ea : w ++ (gpW w ++ rmW r) = w ++ gpW w ++ [(123 : Int32).toInt] ++ r ++ [(125 : Int32).toInt] := by
      unfold rmW
      simp only [List.append_assoc]
      rfl
    rw [ea]
    exact P21
/-- marks and remark -/
theorem mk_l : ∀ K : List Int, (mkW K).length ≤ 6 * K.length
  | [] => Nat.le_refl _
  | m :: K => by
    have h := mk_l K
    have h2 : (nmW m).length ≤ 4 := nm_l
    have e : mkW (m :: K) = 32 :: 36 :: nmW m ++ mkW K := by
      unfold mkW
      rw [List.flatMap_cons]
    rw [e, List.length_append, List.length_cons, List.length_cons, List.length_cons]
    omega
theorem pc_66 (hb : 84 < bb) (X0 : FIX S0) (hN : NDw S0 n r) (hM : NMk S0 n K) (hK4 : K.length ≤ 4) (hKb : ∀ m ∈ K, 0 ≤ m ∧ m ≤ 255) : ∀ (f : Nat) (x5 : Int32) (S : ZS) (w : List Int) (j : Nat), x5.toInt = (j : Int) → j ≤ K.length → gpW w = [32] → w.length + 6 * (4 - j) ≤ 86900 → PSt S0 S 78 bb P w → d_X3_putMove_66 f n 3 x5 S = some o → PSt S0 o.2 78 bb P (w ++ (mkW (K.drop j) ++ rkW r)) := by
  intro f
  induction f with
  | zero => intro x5 S w j _ _ _ _ _ hf; cases hf
  | succ f ih =>
    intro x5 S w j hx hj hg hl h hf
    have hf : d_X3_putMove_66s (d_X3_putMove_66 f) n 3 x5 S = some o := hf
    have eS := ndw_e h X0 hN.1
    unfold d_X3_putMove_66s at hf
    obtain ⟨-, hf⟩ := m_chkE hf
    have t4 : (zI S 4 n).toInt = (K.length : Int) := by rw [eS.2.2.1]; exact hM.1
    rcases m_ifE hf with ⟨d, hf⟩ | ⟨d, hf⟩
    · replace d := ti_leP (a := zI S 4 n) (b := x5) d rfl rfl
      have ej : j = K.length := by omega
      have ed : mkW (K.drop j) = [] := by rw [ej, List.drop_length]; rfl
      rw [ed, List.nil_append]
      obtain ⟨⟨r2, S3⟩, h_2, hf⟩ := m_cal2E hf
      have P3 := pc_rem hb X0 hN (by omega) h h_2
      have eo := (Option.some.inj hf).symm
      rw [eo]
      rw [hg] at P3
      exact P3
    · replace d := ti_leN (a := zI S 4 n) (b := x5) d rfl rfl
      have jl : j < K.length := by omega
      obtain ⟨⟨r7, S8⟩, h_7, hf⟩ := m_cal2E hf
      have P8 := pc_gap hb h (by omega) h_7
      rw [hg] at P8
      dsimp only at P8 hf
      obtain ⟨-, hf⟩ := m_chkE hf
      obtain ⟨⟨r12, S13⟩, h_12, hf⟩ := m_cal2E hf
      have P13 := ps_put (Or.inr rfl) hb P8 (by rw [List.length_append]; show w.length + 1 ≤ _; omega) (by decide) h_12
      dsimp only at P13 hf
      have e13 := ndw_e P13 X0 hN.1
      obtain ⟨-, hf⟩ := m_chkE hf
      obtain ⟨⟨y16, S16⟩, h_16, hf⟩ := m_calE hf
      have M13 : NMk S13 n K := ⟨by rw [e13.2.2.1]; exact hM.1, by rw [e13.2.2.1]; exact hM.2⟩
      have q16 := c_markAt M13 hK4 hKb hx jl h_16
      have s16 : S16 = S13 := ro_X4_markAt h_16
      obtain ⟨-, hf⟩ := m_chkE hf
      dsimp only at q16 hf
      rw [s16] at hf
      rw [wA_in jl] at q16
      have bj := hKb _ (List.getElem_mem jl)
      obtain ⟨-, hf⟩ := m_chkE hf
      obtain ⟨⟨r18, S19⟩, h_18, hf⟩ := m_cal2E hf
      have P19 := pc_num hb (v := K[j]) ⟨bj.1, by omega⟩ q16 (by rw [List.length_append, List.length_append]; show w.length + 1 + 1 ≤ _; omega) P13 h_18
      dsimp only at P19 hf
      obtain ⟨v22, e22, hf⟩ := m_bndE hf
      have t22 : v22.toInt = x5.toInt + 1 := ti_add e22 rfl (show (1 : Int32).toInt = 1 from rfl) (by omega) (by omega)
      have nl : (nmW K[j]).length ≤ 4 := nm_l
      have q := ih v22 S19 _ (j + 1) (by omega) (by omega) gp_nm (by rw [List.length_append, List.length_append, List.length_append]; show w.length + 1 + 1 + _ + _ ≤ _; omega) P19 hf
      have ed : mkW (K.drop j) = [32] ++ ([(36 : Int32).toInt] ++ (nmW K[j] ++ mkW (K.drop (j + 1)))) := by
        rw [List.drop_eq_getElem_cons jl]
        unfold mkW
        rw [List.flatMap_cons]
        rfl
      rw [ed]
      simp only [List.append_assoc] at q ⊢
      exact q
theorem pc_44 (hb : 84 < bb) (X0 : FIX S0) (hN : NDw S0 n r) (hM : NMk S0 n K) (hK4 : K.length ≤ 4) (hKb : ∀ m ∈ K, 0 ≤ m ∧ m ≤ 255) (hx : (zI S0 1 n).toInt = v) (pg : PGd P) (hn : 0 ≤ onb P ∧ onb P ≤ 1299) (LG : LGo P v) (hl : w.length ≤ 86000) (h : PSt S0 S 78 bb P w) (hf : d_X3_putMove_44 77 bb n 3 S = some o) : PSt S0 o.2 78 bb P (w ++ (gpW w ++ (sgP P v ++ (mkW K ++ rkW r)))) := by
  unfold d_X3_putMove_44 at hf
  obtain ⟨⟨r2, S3⟩, h_2, hf⟩ := m_cal2E hf
  have P3 := pc_gap hb h (by omega) h_2
  dsimp only at P3 hf
  have gl : (gpW w).length ≤ 1 := by
    unfold gpW
    split
    · exact Nat.zero_le _
    · exact Nat.le_refl _
  obtain ⟨-, hf⟩ := m_chkE hf
  replace hf := m_calY hf (show zP S3 0 77 = some 78 from fx_p P3.2.1 (by decide))
  obtain ⟨-, hf⟩ := m_chkE hf
  obtain ⟨-, hf⟩ := m_chkE hf
  obtain ⟨⟨r8, S9⟩, h_8, hf⟩ := m_cal2E hf
  have e3 := ndw_e P3 X0 hN.1
  have t3 : (zI S3 1 n).toInt = v := by rw [e3.2.2.1]; exact hx
  obtain ⟨ck, c1, P9⟩ := c_putSigns (Or.inr rfl) hb pg ⟨hn.1, by omega⟩ (by rw [List.length_append]; omega) (by rw [t3]; exact LG) P3 h_8
  dsimp only at P9 hf
  rw [t3] at c1 P9
  have cb := csF_b (P := P) (x2 := zI S3 1 n) (ck := ck) (by rw [t3]; exact c1)
  have sl : (sgW P v ck).length ≤ 16 := sg_l
  have g9 : gpW (w ++ gpW w ++ sgW P v ck) = [32] := gp_sg cb LG.1.1
  have q := pc_66 hb X0 hN hM hK4 hKb mFuel 0 S9 _ 0 rfl (Nat.zero_le _) g9 (by rw [List.length_append, List.length_append]; omega) P9 hf
  rw [List.drop_zero, sg_e c1] at q
  simp only [List.append_assoc] at q ⊢
  exact q
theorem pc_11 (hb : 84 < bb) (X0 : FIX S0) (hN : NDw S0 n r) (hM : NMk S0 n K) (hK4 : K.length ≤ 4) (hKb : ∀ m ∈ K, 0 ≤ m ∧ m ≤ 255) (hx : (zI S0 1 n).toInt = v) (pg : PGd P) (hn : 0 ≤ onb P ∧ onb P ≤ 1299) (LG : LGo P v) (hl : w.length ≤ 85000) (h : PSt S0 S 78 bb P w) (hf : d_X3_putMove_11 77 bb n 3 S = some o) : PSt S0 o.2 78 bb P (w ++ (gpW w ++ ((nmW (onb P) ++ ((if osd P = 0 then [46] else [46, 46, 46]) ++ [32])) ++ (sgP P v ++ (mkW K ++ rkW r))))) := by
  have s41 : ∀ (k : Nat) (l : List Int) (w : List Int) (S : ZS), strL k = l → (l = [46] ∨ l = [46, 46, 46]) → w.length ≤ 85500 → PSt S0 S 78 bb P w → d_X3_putMove_41 77 bb n 3 k 3 S = some o → PSt S0 o.2 78 bb P (w ++ (l ++ ([32] ++ (sgP P v ++ (mkW K ++ rkW r))))) := fun k l w S hk hll hl h hh => by
    unfold d_X3_putMove_41 at hh
    obtain ⟨-, hh⟩ := m_chkE hh
    obtain ⟨⟨r2, S3⟩, h_2, hh⟩ := m_cal2E hh
    have l3 : l.length ≤ 3 := by rcases hll with e | e <;> rw [e] <;> decide
    have P3 := pc_txt hb (k := k) (by rw [hk]; omega) (by rw [hk]; rcases hll with e | e <;> rw [e] <;> decide) (by omega) h h_2
    rw [hk] at P3
    dsimp only at P3 hh
    have g3 : gpW (w ++ l) = [32] := by
      rcases hll with e | e
      · rw [e]; exact gp_1 (by decide)
      · rw [e, show w ++ [46, 46, 46] = (w ++ [46, 46]) ++ [(46 : Int)] by simp]; exact gp_1 (by decide)
    have q := pc_44 hb X0 hN hM hK4 hKb hx pg hn LG (by rw [List.length_append]; omega) P3 hh
    rw [g3] at q
    simp only [List.append_assoc] at q ⊢
    exact q
  unfold d_X3_putMove_11 at hf
  obtain ⟨⟨r2, S3⟩, h_2, hf⟩ := m_cal2E hf
  have P3 := pc_gap hb h (by omega) h_2
  dsimp only at P3 hf
  have gl : (gpW w).length ≤ 1 := by
    unfold gpW
    split
    · exact Nat.zero_le _
    · exact Nat.le_refl _
  obtain ⟨-, hf⟩ := m_chkE hf
  obtain ⟨-, hf⟩ := m_chkE hf
  obtain ⟨⟨r7, S8⟩, h_7, hf⟩ := m_cal2E hf
  have b3 := P3.2.2.1.2.2.2.2.2.2.2
  have P8 := pc_num hb (v := onb P) ⟨hn.1, by omega⟩ b3 (by rw [List.length_append]; omega) P3 h_7
  dsimp only at P8 hf
  obtain ⟨-, hf⟩ := m_chkE hf
  have s8 := P8.2.2.1.2.2.1
  have nl : (nmW (onb P)).length ≤ 4 := nm_l
  have wl : (w ++ gpW w ++ nmW (onb P)).length ≤ 85500 := by rw [List.length_append, List.length_append]; omega
  rcases m_ifE hf with ⟨d, hf⟩ | ⟨d, hf⟩
  · have d' : osd P = 0 := by rw [← s8, d]; rfl
    have q := s41 13 [46] _ S8 (by decide +kernel) (Or.inl rfl) wl P8 hf
    rw [if_pos d']
    simp only [List.append_assoc] at q ⊢
    exact q
  · have d' : ¬ osd P = 0 := fun e => d (i32_of (s8.trans e))
    have q := s41 14 [46, 46, 46] _ S8 (by decide +kernel) (Or.inr rfl) wl P8 hf
    rw [if_neg d']
    simp only [List.append_assoc] at q ⊢
    exact q
/-- a move on the class's side -/
theorem pc_move {fr : Bool} (hb : 84 < bb) (X0 : FIX S0) (hN : NDw S0 n r) (hM : NMk S0 n K) (hK4 : K.length ≤ 4) (hKb : ∀ m ∈ K, 0 ≤ m ∧ m ≤ 255) (hx : (zI S0 1 n).toInt = v) (pg : PGd P) (hn : 0 ≤ onb P ∧ onb P ≤ 1299) (LG : LGo P v) (hl : w.length ≤ 85000) (h3 : x3.toInt = if fr = true then 1 else 0) (h : PSt S0 S 78 bb P w) (hf : d_X3_putMove 77 bb n x3 3 S = some o) : PSt S0 o.2 78 bb P (w ++ (gpW w ++ mvX P v K r fr)) := by
  have hf : d_X3_putMove_0 77 bb n x3 3 S = some o := hf
  unfold d_X3_putMove_0 at hf
  obtain ⟨-, hf⟩ := m_chkE hf
  have s3 := h.2.2.1.2.2.1
  unfold mvX
  have yes : d_X3_putMove_11 77 bb n 3 S = some o → (osd P = 0 ∨ fr = true) → PSt S0 o.2 78 bb P (w ++ (gpW w ++ ((if osd P = 0 ∨ fr = true then nmW (onb P) ++ ((if osd P = 0 then [46] else [46, 46, 46]) ++ [32]) else []) ++ (sgP P v ++ (mkW K ++ rkW r))))) := fun hh hc => by
    rw [if_pos hc]
    exact pc_11 hb X0 hN hM hK4 hKb hx pg hn LG hl h hh
  rcases m_ifE hf with ⟨d, hf⟩ | ⟨d, hf⟩
  · exact yes hf (Or.inl (by rw [← s3, d]; rfl))
  · have d' : ¬ osd P = 0 := fun e => d (i32_of (s3.trans e))
    rcases m_ifE hf with ⟨d2, hf⟩ | ⟨d2, hf⟩
    · have nf : ¬ fr = true := fun e => by
        rw [if_pos e, d2] at h3
        exact absurd h3 (by decide)
      rw [if_neg (fun e => e.elim d' nf), List.nil_append]
      exact pc_44 hb X0 hN hM hK4 hKb hx pg hn LG (by omega) h hf
    · refine yes hf (Or.inr ?_)
      cases fr with
      | true => rfl
      | false => exact absurd (i32_of h3) d2
end WCR
