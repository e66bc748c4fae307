/-- castling told by a word -/
def pCs (w : List Int) : Int := if w = strL 7 then 2 else if w = strL 8 then -2 else 0
def POK (w : List Int) : Prop := w = strL 7 ∨ w = strL 8 ∨ PRSok w
def bcW (w : List Int) : Int := if pCs w = 0 then prB w else 0
/-- the squares from which a word's moves come -/
def AQw (m : Int → Int) (sd rt ps ko : Int) (any : Bool) (w : List Int) : Nat → Prop := AQn m sd rt ps ko (pCs w) (prK w) (prF w) (prR w) (toC sd (pCs w) (prT w)) (bcW w) (if any = true then -1 else prX w)
def mvW (sd : Int) (w : List Int) : Nat → Int := mvA (toC sd (pCs w) (prT w)) (bcW w)
/-- a move's sign of check, as a word asks for it -/
def csF (m : Int → Int) (sd rt ps kw kb x ck : Int) : Prop := csP (afM m sd ps x) (1 - sd) (afR rt x) (afP m sd ps x) (afK m sd ps x 0 kw) (afK m sd ps x 1 kb) ck
def F1 (m : Int → Int) (sd rt ps kw kb ck x : Int) : Prop := ck = 0 ∨ csF m sd rt ps kw kb x ck
theorem str_78 : strL 7 ≠ strL 8 := by decide
theorem pr_rng (w : List Int) : (0 ≤ prK w ∧ prK w ≤ 6) ∧ (prX w = 0 ∨ prX w = 1) ∧ (0 ≤ prB w ∧ prB w ≤ 6) := by
  have h1 := kO_b (wA w 0)
  have h2 := kO_b (wA w ((w.length : Int) - 1))
  refine ⟨?_, ?_, ?_⟩
  · unfold prK; split <;> omega
  · unfold prX; split <;> omega
  · unfold prB; split <;> omega
theorem bc_rng {w : List Int} (h : POK w) : 0 ≤ bcW w ∧ bcW w ≤ 5 := by
  unfold bcW
  by_cases c : pCs w = 0
  · rw [if_pos c]
    rcases h with h | h | h
    · exfalso
      unfold pCs at c
      rw [if_pos h] at c
      omega
    · exfalso
      unfold pCs at c
      rw [if_neg (fun e => str_78 (e.symm.trans h)), if_pos h] at c
      omega
    · have h1 := h.1
      by_cases e : prK w = 1 ∧ wA w ((w.length : Int) - 2) = 61
      · have := h1 e; omega
      · have : prB w = 0 := if_neg e
        omega
  · rw [if_neg c]
    omega
theorem txF_b {ch : Int → Int} {lo : Bool} (h : ∀ i, 0 ≤ ch i ∧ ch i ≤ 127) : ∀ {k : Nat} {a : Int}, ∀ c ∈ txF lo ch a k, 0 ≤ c ∧ c ≤ 127
  | 0, a, c, hc => by cases hc
  | k + 1, a, c, hc => by
    have hc : c ∈ (if lo = true ∧ (ch a = 120 ∨ ch a = 43 ∨ ch a = 35) then [] else [ch a]) ++ txF lo ch (a + 1) k := hc
    rcases List.mem_append.1 hc with g | g
    · split at g
      · cases g
      · rw [List.mem_singleton.1 g]; exact h a
    · exact txF_b h c g
theorem wA_b {u : List Int} (h : ∀ c ∈ u, 0 ≤ c ∧ c ≤ 127) {n : Nat} (i : Int) : 0 ≤ wA (u.take n) i ∧ wA (u.take n) i ≤ 127 := by
  rw [wA_take]
  split
  · by_cases c : 0 ≤ i ∧ i < (u.length : Int)
    · have e : wA u i = u[i.toNat]'(by omega) := by
        have := wA_in (w := u) (i := i.toNat) (by omega)
        rw [← this]
        congr 1
        omega
      rw [e]
      exact h _ (List.getElem_mem _)
    · rw [wA_out (by omega)]
      omega
  · omega
section MTC
variable {S0 S : ZS} {x0 ru rw fa tb ab bb tr : Nat} {m : Int → Int} {sd rt ps kw kb ko : Int} {o : Int32 × ZS} {w : List Int}
/-- the reader's fields tell the word -/
def PGf (S : ZS) (x0 : Nat) (sd : Int) (w : List Int) : Prop := ∃ tq, FLD S x0 (pCs w) (prK w) (prF w) (prR w) tq (bcW w) (prX w) ∧ (pCs w = 0 → 0 ≤ tq ∧ tq ≤ 63) ∧ toC sd (pCs w) tq = toC sd (pCs w) (prT w)
theorem p_pg {r6 : Int32} {S6 : ZS} (hS : SRr S x0 ru rw fa tb ab bb m sd rt ps kw kb) (hw : RWL S rw w) (hb : ∀ i, 0 ≤ wA w i ∧ wA w i ≤ 127) (hlw : w.length ≤ 8) (h6 : f_X8_parse x0 S = some (r6, S6)) : SRr S6 x0 ru rw fa tb ab bb m sd rt ps kw kb ∧ MTF S S6 x0 rw tb ab fa ∧ zI S6 9 x0 = zI S 9 x0 ∧ (r6.toInt = 0 ∨ r6.toInt = 1) ∧ (r6.toInt = 1 ↔ POK w) ∧ (r6.toInt = 1 → PGf S6 x0 sd w) := by
  obtain ⟨hC, ⟨k8, p0, p1, p10⟩, ⟨k6, hrc⟩, -⟩ := id hS
  have hT := hC.1.1
  have nx : rw ≠ x0 := fun e => by rw [← e, k6] at k8; exact absurd k8 (by decide)
  have T6 : ZT S6 := (ok_of (t_f_X8_parse (SZ := S) hT (a7_0 S) k8) h6).1
  obtain ⟨g1, g2⟩ := p_parse p1 nx hw hb hlw h6
  dsimp only at g1 g2
  refine ⟨sr_m hS T6 (mtf_x g1.1), mtf_x g1.1, g1.2 9 (by decide), ?_⟩
  rcases g2 with ⟨a1, a2, a3, a4⟩ | ⟨a0, a1, a2, a3, a4⟩ | ⟨a0, a1, a2, a3, a4, a5⟩
  · have ec : pCs w = 2 := if_pos a1
    refine ⟨Or.inr a2, ⟨fun _ => Or.inl a1, fun _ => a2⟩, fun _ => ⟨(zI S6 6 x0).toInt, ⟨by rw [ec]; exact a3, fun h => by rw [ec] at h; omega, rfl, ?_⟩, fun h => by rw [ec] at h; omega, ?_⟩⟩
    · unfold bcW
      rw [ec, if_neg (by decide)]
      exact a4
    · unfold toC
      rw [ec, if_neg (by decide), if_neg (by decide)]
  · have ec : pCs w = -2 := by
      unfold pCs
      rw [if_neg a0, if_pos a1]
    refine ⟨Or.inr a2, ⟨fun _ => Or.inr (Or.inl a1), fun _ => a2⟩, fun _ => ⟨(zI S6 6 x0).toInt, ⟨by rw [ec]; exact a3, fun h => by rw [ec] at h; omega, rfl, ?_⟩, fun h => by rw [ec] at h; omega, ?_⟩⟩
    · unfold bcW
      rw [ec, if_neg (by decide)]
      exact a4
    · unfold toC
      rw [ec, if_neg (by decide), if_neg (by decide)]
  · have ec : pCs w = 0 := by
      unfold pCs
      rw [if_neg a0, if_neg a1]
    refine ⟨a3, a4.trans ⟨fun h => Or.inr (Or.inr h), fun h => h.elim (fun g => absurd g a0) (fun g => g.elim (fun g => absurd g a1) id)⟩, fun h => ?_⟩
    obtain ⟨b1, b2, b3, b4, b5, b6⟩ := a5 h
    have ok := a4.1 h
    have hv := (pr_to ok).1
    refine ⟨prT w, ⟨by rw [ec]; exact a2, fun _ => ⟨b1, b2, b3, b6⟩, b4, ?_⟩, fun _ => hv.2.2.2.2.2.1, rfl⟩
    unfold bcW
    rw [if_pos ec]
    exact b5
/-- what is held while the gathered moves are looked at -/
def MJ (S0 S : ZS) (x0 ru rw fa tb ab bb : Nat) (m : Int → Int) (sd rt ps kw kb ko : Int) (w : List Int) (ck : Int) (x5 x6 x7 : Int32) : Prop := SRr S x0 ru rw fa tb ab bb m sd rt ps kw kb ∧ MTF S0 S x0 rw tb ab fa ∧ (zI S 9 x0).toInt = ck ∧ (zI S 11 x0).toInt = (cnt (AQw m sd rt ps ko false w) 64 : Int) ∧ LST (fun i => (zA S fa i).toInt) (AQw m sd rt ps ko false w) (mvW sd w) 64 ∧ x6.toInt = (cnt (fun k => F1 m sd rt ps kw kb ck ((zA S fa k).toInt)) x7.toInt.toNat : Int) ∧ (0 < x6.toInt → ∃ a, a < 64 ∧ AQw m sd rt ps ko false w a ∧ F1 m sd rt ps kw kb ck (mvW sd w a) ∧ x5.toInt = mvW sd w a)
/-- how many moves of a word there are -/
noncomputable def NW1 (m : Int → Int) (sd rt ps kw kb ko : Int) (w : List Int) (ck : Int) : Nat := cnt (fun a => AQw m sd rt ps ko false w a ∧ F1 m sd rt ps kw kb ck (mvW sd w a)) 64
theorem mvW_b {a : Nat} (hs2 : sd = 0 ∨ sd = 1) (hok : POK w) (ha : a < 64) : 0 ≤ mvW sd w a ∧ mvW sd w a ≤ 24575 ∧ mvW sd w a % 64 = (a : Int) ∧ mvW sd w a / 64 % 64 = toC sd (pCs w) (prT w) ∧ mvW sd w a / 4096 = bcW w := by
  have h1 := bc_rng hok
  have h2 : 0 ≤ toC sd (pCs w) (prT w) ∧ toC sd (pCs w) (prT w) ≤ 63 := by
    unfold toC
    by_cases c : pCs w = 0
    · rw [if_pos c]
      have ok : PRSok w := by
        rcases hok with h | h | h
        · exfalso; unfold pCs at c; rw [if_pos h] at c; omega
        · exfalso; unfold pCs at c; rw [if_neg (fun e => str_78 (e.symm.trans h)), if_pos h] at c; omega
        · exact h
      exact (pr_to ok).1.2.2.2.2.2.1
    · rw [if_neg c]
      have : pCs w = 2 ∨ pCs w = -2 := by
        rcases hok with h | h | h
        · exact Or.inl (if_pos h)
        · right
          unfold pCs
          rw [if_neg (fun e => str_78 (e.symm.trans h)), if_pos h]
        · exfalso
          apply c
          unfold pCs
          have n7 : w ≠ strL 7 := fun e => h.2.1 (by rw [e]; decide)
          have n8 : w ≠ strL 8 := fun e => h.2.1 (by rw [e]; decide)
          rw [if_neg n7, if_neg n8]
      omega
  unfold mvW mvA
  omega
theorem mt_79 {x2 : Nat} {x3 x4 x5 x6 x7 : Int32} {ck : Int} {self29 : Nat → Nat → Nat → Int32 → Int32 → Int32 → Int32 → Int32 → ZS → Option (Int32 × ZS)} {G : Prop} (h7 : 0 ≤ x7.toInt ∧ x7.toInt < 64) (H : ∀ (x5 x6 v : Int32) (S : ZS), v.toInt = x7.toInt + 1 → MJ S0 S x0 ru rw fa tb ab bb m sd rt ps kw kb ko w ck x5 x6 v → self29 x0 bb x2 x3 x4 x5 x6 v S = some o → G) (hJ : MJ S0 S x0 ru rw fa tb ab bb m sd rt ps kw kb ko w ck x5 x6 x7) (hn : ¬ F1 m sd rt ps kw kb ck ((zA S fa x7.toInt.toNat).toInt)) (hf : d_X8_matched_79 self29 x0 bb x2 x3 x4 x5 x6 x7 S = some o) : G := by
  unfold d_X8_matched_79 at hf
  obtain ⟨v1, e_v1, hf⟩ := m_bndE hf
  have t_v1 : v1.toInt = x7.toInt + 1 := ti_add e_v1 rfl (show (1 : Int32).toInt = 1 from rfl) (by omega) (by omega)
  obtain ⟨a1, a2, a3, a4, a5, a6, a7⟩ := hJ
  refine H x5 x6 v1 S t_v1 ⟨a1, a2, a3, a4, a5, ?_, a7⟩ hf
  rw [show v1.toInt.toNat = x7.toInt.toNat + 1 by omega, cnt_n hn]
  exact a6
theorem mt_67 {x2 : Nat} {x3 x4 x5 x6 x7 : Int32} {ck : Int} {self29 : Nat → Nat → Nat → Int32 → Int32 → Int32 → Int32 → Int32 → ZS → Option (Int32 × ZS)} {G : Prop} (h7 : 0 ≤ x7.toInt ∧ x7.toInt < 64) (H : ∀ (x5 x6 v : Int32) (S : ZS), v.toInt = x7.toInt + 1 → MJ S0 S x0 ru rw fa tb ab bb m sd rt ps kw kb ko w ck x5 x6 v → self29 x0 bb x2 x3 x4 x5 x6 v S = some o → G) (hJ : MJ S0 S x0 ru rw fa tb ab bb m sd rt ps kw kb ko w ck x5 x6 x7) (hy : F1 m sd rt ps kw kb ck ((zA S fa x7.toInt.toNat).toInt)) {a : Nat} (ha : a < 64) (hq : AQw m sd rt ps ko false w a) (hl : (zA S fa x7.toInt.toNat).toInt = mvW sd w a) (hf : d_X8_matched_67 self29 x0 bb x2 x3 x4 x6 x7 S = some o) : G := by
  obtain ⟨a1, a2, a3, a4, a5, a6, a7⟩ := id hJ
  have p10 := a1.2.1.2.2.2
  have c6 : cnt (fun k => F1 m sd rt ps kw kb ck ((zA S fa k).toInt)) x7.toInt.toNat ≤ x7.toInt.toNat := cnt_le
  unfold d_X8_matched_67 at hf
  obtain ⟨-, hf⟩ := m_chkE hf
  replace hf := m_calY hf p10
  obtain ⟨-, hf⟩ := m_chkE hf
  obtain ⟨-, hf⟩ := m_chkE hf
  obtain ⟨v2, e_v2, hf⟩ := m_bndE hf
  have q2 : v2.toInt = mvW sd w a := by rw [e_v2]; exact hl
  obtain ⟨v3, e_v3, hf⟩ := m_bndE hf
  have t_v3 : v3.toInt = x6.toInt + 1 := ti_add e_v3 rfl (show (1 : Int32).toInt = 1 from rfl) (by omega) (by omega)
  unfold d_X8_matched_79 at hf
  obtain ⟨v9, e9, hf⟩ := m_bndE hf
  have t9 : v9.toInt = x7.toInt + 1 := ti_add e9 rfl (show (1 : Int32).toInt = 1 from rfl) (by omega) (by omega)
  refine H v2 v3 v9 S t9 ⟨a1, a2, a3, a4, a5, ?_, fun _ => ⟨a, ha, hq, by rw [← hl]; exact hy, q2⟩⟩ hf
  rw [show v9.toInt.toNat = x7.toInt.toNat + 1 by omega, cnt_y hy, t_v3, a6]
  omega
theorem mt_29 {x2 : Nat} {x3 x4 : Int32} {ck : Int} (hko : ko = if sd = 0 then kw else kb) (hM : MBd m) (hr : 0 ≤ rt ∧ rt ≤ 15) (hs2 : sd = 0 ∨ sd = 1) (hok : POK w) : ∀ (n : Nat) (x5 x6 x7 : Int32) (S : ZS), (0 ≤ x7.toInt ∧ x7.toInt ≤ (cnt (AQw m sd rt ps ko false w) 64 : Int)) → MJ S0 S x0 ru rw fa tb ab bb m sd rt ps kw kb ko w ck x5 x6 x7 → d_X8_matched_29 n x0 bb x2 x3 x4 x5 x6 x7 S = some o → (NW1 m sd rt ps kw kb ko w ck = 0 ∧ ∃ S1, SRr S1 x0 ru rw fa tb ab bb m sd rt ps kw kb ∧ MTF S0 S1 x0 rw tb ab fa ∧ d_X8_matched_103 x0 bb x2 x3 x4 S1 = some o) ∨ (0 < NW1 m sd rt ps kw kb ko w ck ∧ SRr o.2 x0 ru rw fa tb ab bb m sd rt ps kw kb ∧ MTF S0 o.2 x0 rw tb ab fa ∧ ((NW1 m sd rt ps kw kb ko w ck = 1 ∧ ∃ a, a < 64 ∧ AQw m sd rt ps ko false w a ∧ F1 m sd rt ps kw kb ck (mvW sd w a) ∧ o.1.toInt = mvW sd w a) ∨ (NW1 m sd rt ps kw kb ko w ck ≠ 1 ∧ o.1.toInt = -1))) := by
  intro n
  induction n with
  | zero => intro x5 x6 x7 S _ _ hf; cases hf
  | succ n ih =>
    intro x5 x6 x7 S h7 hJ hf
    have hf : d_X8_matched_29s (d_X8_matched_29 n) x0 bb x2 x3 x4 x5 x6 x7 S = some o := hf
    obtain ⟨a1, a2, a3, a4, a5, a6, a7⟩ := id hJ
    obtain ⟨hC, ⟨k8, p0, p1, p10⟩, ⟨k6, hrc⟩, ⟨k14, n64⟩, ⟨t1, t2, t3⟩, ⟨y1, y2, y3⟩⟩ := id a1
    have hc64 : cnt (AQw m sd rt ps ko false w) 64 ≤ 64 := cnt_le
    have z0 : (0 : Int32).toInt = 0 := rfl
    -- at the end
    have fin : (cnt (AQw m sd rt ps ko false w) 64 : Int) ≤ x7.toInt → x6.toInt = (NW1 m sd rt ps kw kb ko w ck : Int) := fun h => by
      have e7 : x7.toInt.toNat = cnt (AQw m sd rt ps ko false w) 64 := by omega
      rw [a6, e7, lst_cnt (F := F1 m sd rt ps kw kb ck) 64 a5]
      rfl
    have H : x7.toInt < (cnt (AQw m sd rt ps ko false w) 64 : Int) → ∀ (x5 x6 v : Int32) (S : ZS), v.toInt = x7.toInt + 1 → MJ S0 S x0 ru rw fa tb ab bb m sd rt ps kw kb ko w ck x5 x6 v → d_X8_matched_29 n x0 bb x2 x3 x4 x5 x6 v S = some o → _ := fun hlt x5 x6 v S ev hJ hf => ih x5 x6 v S (by omega) hJ hf
    unfold d_X8_matched_29s at hf
    obtain ⟨-, hf⟩ := m_chkE hf
    rcases m_ifE hf with ⟨c1, hf⟩ | ⟨c1, hf⟩
    · skip
      replace c1 := ti_leP (a := (zI S 11 x0)) (b := x7) c1 rfl rfl
      have e6 := fin (by omega)
      rcases m_ifE hf with ⟨c2, hf⟩ | ⟨c2, hf⟩
      · skip
        replace c2 := ti_leP (a := x6) (b := (0 : Int32)) c2 rfl (show (0 : Int32).toInt = 0 from rfl)
        exact Or.inl ⟨by omega, S, a1, a2, hf⟩
      · skip
        replace c2 := ti_leN (a := x6) (b := (0 : Int32)) c2 rfl (show (0 : Int32).toInt = 0 from rfl)
        rcases m_ifE hf with ⟨c3, hf⟩ | ⟨c3, hf⟩
        · skip
          replace c3 := ti_eqP (a := x6) (b := (1 : Int32)) c3 rfl (show (1 : Int32).toInt = 1 from rfl)
          unfold d_X8_matched_102 at hf
          cases hf
          try dsimp only
          refine Or.inr ⟨by omega, a1, a2, Or.inl ⟨by omega, ?_⟩⟩
          exact a7 (by omega)
        · skip
          replace c3 := ti_eqN (a := x6) (b := (1 : Int32)) c3 rfl (show (1 : Int32).toInt = 1 from rfl)
          unfold d_X8_matched_102 at hf
          cases hf
          try dsimp only
          exact Or.inr ⟨by omega, a1, a2, Or.inr ⟨by omega, rfl⟩⟩
    · skip
      replace c1 := ti_leN (a := (zI S 11 x0)) (b := x7) c1 rfl rfl
      obtain ⟨a, ha, hq, hqc⟩ := cnt_sur (P := AQw m sd rt ps ko false w) (k := x7.toInt.toNat) (N := 64) (by omega)
      have hl : (zA S fa x7.toInt.toNat).toInt = mvW sd w a := by
        have := a5 a ha hq
        rw [hqc] at this
        exact this
      obtain ⟨m1, m2, m3, m4, m5⟩ := mvW_b (a := a) hs2 hok ha
      obtain ⟨-, hf⟩ := m_chkE hf
      rcases m_ifE hf with ⟨c4, hf⟩ | ⟨c4, hf⟩
      · skip
        replace c4 := ti_eqP (a := (zI S 9 x0)) (b := (0 : Int32)) c4 rfl (show (0 : Int32).toInt = 0 from rfl)
        exact mt_67 ⟨h7.1, by omega⟩ (H (by omega)) hJ (Or.inl (by omega)) ha hq hl hf
      · skip
        replace c4 := ti_eqN (a := (zI S 9 x0)) (b := (0 : Int32)) c4 rfl (show (0 : Int32).toInt = 0 from rfl)
        obtain ⟨-, hf⟩ := m_chkE hf
        obtain ⟨-, hf⟩ := m_chkE hf
        replace hf := m_calY hf p0
        obtain ⟨-, hf⟩ := m_chkE hf
        replace hf := m_calY hf p10
        obtain ⟨-, hf⟩ := m_chkE hf
        obtain ⟨-, hf⟩ := m_chkE hf
        obtain ⟨v3, e_v3, hf⟩ := m_bndE hf
        obtain ⟨-, hf⟩ := m_chkE hf
        obtain ⟨⟨r4, S4c⟩, h_r4, hf⟩ := m_calE hf
        dsimp only at hf
        have ev : (zA S fa x7.toNatClampNeg).toInt = mvW sd w a := hl
        rw [← e_v3] at ev
        have hR : 0 ≤ afR rt v3.toInt ∧ afR rt v3.toInt ≤ 15 := by
          have := (rt_pl (r := Int32.ofInt rt) (a := v3.toInt % 64) (t := v3.toInt / 64 % 64) (by rw [Int32.toInt_ofInt_of_le (by omega) (by omega)]; exact hr)).1
          exact this
        have hM2 : MBd (afM m sd ps v3.toInt) := mbd_pl hM hs2 (by have := bc_rng hok; omega)
        obtain ⟨C4, s4, q4⟩ := p_checkSign hC hM (by omega) hs2 hR hM2 h_r4
        dsimp only at C4 s4 q4
        have mm : MTF S S4c x0 rw tb ab fa := mtf_s s4 hC.1.1 t1 t2
        have R4 := sr_m a1 C4.1.1 mm
        have nx1 : x0 ≠ tb := fun e => by have := hC.1.2.2.1.1; rw [← e, k8] at this; exact absurd this (by decide)
        have nx2 : x0 ≠ ab := fun e => by have := hC.2.1.2.1; rw [← e, k8] at this; exact absurd this (by decide)
        have i4 : ∀ j, zI S4c j x0 = zI S j x0 := fun j => s4.2.2.1 j x0 nx1 nx2
        have f4 : zA S4c fa = zA S fa := s4.2.2.2.1 fa y1 y2
        have J4 : MJ S0 S4c x0 ru rw fa tb ab bb m sd rt ps kw kb ko w ck x5 x6 x7 := ⟨R4, mtf_t a2 mm, by rw [i4]; exact a3, by rw [i4]; exact a4, by rw [f4]; exact a5, by rw [f4]; exact a6, a7⟩
        obtain ⟨-, hf⟩ := m_chkE hf
        rcases m_ifE hf with ⟨c5, hf⟩ | ⟨c5, hf⟩
        · skip
          replace c5 := ti_eqP (a := (zI S 9 x0)) (b := r4) c5 rfl rfl
          refine mt_67 ⟨h7.1, by omega⟩ (H (by omega)) J4 ?_ ha hq (by rw [f4]; exact hl) hf
          rw [f4, hl, ← ev]
          right
          have e9 : ck = r4.toInt := by omega
          rw [e9]
          exact q4
        · skip
          replace c5 := ti_eqN (a := (zI S 9 x0)) (b := r4) c5 rfl rfl
          refine mt_79 ⟨h7.1, by omega⟩ (H (by omega)) J4 ?_ hf
          rw [f4, hl, ← ev]
          rintro (g | g)
          · omega
          · have := csP_u g q4
            omega
/-- the word without x, + and # -/
theorem mt_103 {x3 x4 : Int32} {ch : Int → Int} (hS : SRr S x0 ru rw fa tb ab bb m sd rt ps kw kb) (kt : zK S tr = 6) (hne : tr ≠ rw) (hch : rwC S tr = ch) (hcb : ∀ i, 0 ≤ ch i ∧ ch i ≤ 127) (h3 : 0 ≤ x3.toInt ∧ x3.toInt ≤ 90000) (h4 : 0 ≤ x4.toInt ∧ x4.toInt ≤ 90000) (hko : ko = if sd = 0 then kw else kb) (hM : MBd m) (hr : 0 ≤ rt ∧ rt ≤ 15) (hs2 : sd = 0 ∨ sd = 1) (hw2 : w = (txF true ch x3.toInt (x4.toInt - x3.toInt).toNat).take 8) (hf : d_X8_matched_103 x0 bb tr x3 x4 S = some o) : SRr o.2 x0 ru rw fa tb ab bb m sd rt ps kw kb ∧ MTF S o.2 x0 rw tb ab fa ∧ ((POK w ∧ cnt (AQw m sd rt ps ko true w) 64 = 1 ∧ o.1.toInt = -2) ∨ (¬ (POK w ∧ cnt (AQw m sd rt ps ko true w) 64 = 1) ∧ o.1.toInt = -1)) := by
  have z0 : (0 : Int32).toInt = 0 := rfl
  have hwb : ∀ i, 0 ≤ wA w i ∧ wA w i ≤ 127 := fun i => by rw [hw2]; exact wA_b (txF_b hcb) i
  have hwl : w.length ≤ 8 := by rw [hw2, List.length_take]; omega
  unfold d_X8_matched_103 at hf
  obtain ⟨-, hf⟩ := m_chkE hf
  obtain ⟨⟨r2, S3⟩, h_r2, hf⟩ := m_cal2E hf
  dsimp only at hf
  obtain ⟨T3, m3, w3⟩ := p_copyBare (tb := tb) (ab := ab) (fa := fa) hS kt hne hch h3 h4 h_r2
  dsimp only at T3 m3 w3
  rw [← hw2] at w3
  have R3 := sr_m hS T3 m3
  obtain ⟨-, hf⟩ := m_chkE hf
  obtain ⟨⟨r6, S6c⟩, h_r6, hf⟩ := m_calE hf
  dsimp only at hf
  obtain ⟨R6, m6, -, b6, q6, f6⟩ := p_pg R3 w3 hwb hwl h_r6
  obtain ⟨-, hf⟩ := m_chkE hf
  rcases m_ifE hf with ⟨c1, hf⟩ | ⟨c1, hf⟩
  · skip
    replace c1 := ti_eqP (a := r6) (b := (0 : Int32)) c1 rfl (show (0 : Int32).toInt = 0 from rfl)
    cases hf
    try dsimp only
    exact ⟨R6, mtf_t m3 m6, Or.inr ⟨fun h => by have := q6.2 h.1; omega, rfl⟩⟩
  · skip
    replace c1 := ti_eqN (a := r6) (b := (0 : Int32)) c1 rfl (show (0 : Int32).toInt = 0 from rfl)
    obtain ⟨-, hf⟩ := m_chkE hf
    obtain ⟨S7, e_S7, hf⟩ := m_bndE hf
    obtain ⟨tq, ⟨l2, l3, l6, l7⟩, ht1, ht2⟩ := f6 (by omega)
    have hok := q6.1 (by omega)
    have T7 : ZT S7 := e_S7.symm ▸ zt_I R6.1.1.1 R6.2.1.1 (by decide) (show (-1 : Int) ≤ (-1 : Int32).toInt ∧ (-1 : Int32).toInt ≤ (1 : Int) by decide)
    have x7 : SXf S6c S7 x0 := sx_I e_S7
    have R7 := sr_m R6 T7 (mtf_x x7)
    have o7 : ∀ j, j ≠ 8 → zI S7 j x0 = zI S6c j x0 := fun j hj => by rw [e_S7, zI_j hj]
    have L7 : FLD S7 x0 (pCs w) (prK w) (prF w) (prR w) tq (bcW w) (-1) := ⟨by rw [o7 2 (by decide)]; exact l2, fun h => ⟨by rw [o7 3 (by decide)]; exact (l3 h).1, by rw [o7 4 (by decide)]; exact (l3 h).2.1, by rw [o7 5 (by decide)]; exact (l3 h).2.2.1, by rw [e_S7, zI_self]; rfl⟩, by rw [o7 6 (by decide)]; exact l6, by rw [o7 7 (by decide)]; exact l7⟩
    obtain ⟨-, hf⟩ := m_chkE hf
    obtain ⟨⟨r8, S8c⟩, h_r8, hf⟩ := m_calE hf
    dsimp only at hf
    have pr := pr_rng w
    have cs3 : pCs w = 0 ∨ pCs w = 2 ∨ pCs w = -2 := by
      unfold pCs
      split
      · exact Or.inr (Or.inl rfl)
      · split
        · exact Or.inr (Or.inr rfl)
        · exact Or.inl rfl
    have G8 := p_gather R7 L7 hko hM hr hs2 cs3 ht1 (bc_rng hok) pr.1 (by decide) h_r8
    dsimp only at G8
    obtain ⟨R8, m8, -, -, n8, -⟩ := G8
    rw [ht2] at n8
    have eA : AQn m sd rt ps ko (pCs w) (prK w) (prF w) (prR w) (toC sd (pCs w) (prT w)) (bcW w) (-1) = AQw m sd rt ps ko true w := rfl
    rw [eA] at n8
    have mA := mtf_t (mtf_t (mtf_t m3 m6) (mtf_x x7)) m8
    obtain ⟨-, hf⟩ := m_chkE hf
    obtain ⟨-, hf⟩ := m_chkE hf
    rcases m_ifE hf with ⟨c2, hf⟩ | ⟨c2, hf⟩
    · skip
      replace c2 := ti_eqP (a := (zI S8c 11 x0)) (b := (1 : Int32)) c2 rfl (show (1 : Int32).toInt = 1 from rfl)
      unfold d_X8_matched_144 at hf
      cases hf
      try dsimp only
      exact ⟨R8, mA, Or.inl ⟨hok, by omega, rfl⟩⟩
    · skip
      replace c2 := ti_eqN (a := (zI S8c 11 x0)) (b := (1 : Int32)) c2 rfl (show (1 : Int32).toInt = 1 from rfl)
      unfold d_X8_matched_144 at hf
      cases hf
      try dsimp only
      exact ⟨R8, mA, Or.inr ⟨fun h => by have := h.2; omega, rfl⟩⟩
/-- what the class answers of signs: by the counts of the moves that fit -/
def RSc (m : Int → Int) (sd rt ps kw kb ko : Int) (u w2 : List Int) (v : Int) : Prop := (POK (ckW u) ∧ 0 < NW1 m sd rt ps kw kb ko (ckW u) (ckO u) ∧ ((NW1 m sd rt ps kw kb ko (ckW u) (ckO u) = 1 ∧ ∃ a, a < 64 ∧ AQw m sd rt ps ko false (ckW u) a ∧ F1 m sd rt ps kw kb (ckO u) (mvW sd (ckW u) a) ∧ v = mvW sd (ckW u) a) ∨ (NW1 m sd rt ps kw kb ko (ckW u) (ckO u) ≠ 1 ∧ v = -1))) ∨ (¬ (POK (ckW u) ∧ 0 < NW1 m sd rt ps kw kb ko (ckW u) (ckO u)) ∧ ((POK w2 ∧ cnt (AQw m sd rt ps ko true w2) 64 = 1 ∧ v = -2) ∨ (¬ (POK w2 ∧ cnt (AQw m sd rt ps ko true w2) 64 = 1) ∧ v = -1)))
theorem p_matched {x3 x4 : Int32} {ch : Int → Int} (hS : SRr S x0 ru rw fa tb ab bb m sd rt ps kw kb) (kt : zK S tr = 6) (hne : tr ≠ rw) (hch : rwC S tr = ch) (hcb : ∀ i, 0 ≤ ch i ∧ ch i ≤ 127) (h3 : 0 ≤ x3.toInt ∧ x3.toInt ≤ 90000) (h4 : 0 ≤ x4.toInt ∧ x4.toInt ≤ 90000) (hko : ko = if sd = 0 then kw else kb) (hM : MBd m) (hr : 0 ≤ rt ∧ rt ≤ 15) (hs2 : sd = 0 ∨ sd = 1) (hf : d_X8_matched x0 bb tr x3 x4 S = some o) : SRr o.2 x0 ru rw fa tb ab bb m sd rt ps kw kb ∧ MTF S o.2 x0 rw tb ab fa ∧ RSc m sd rt ps kw kb ko ((txF false ch x3.toInt (x4.toInt - x3.toInt).toNat).take 8) ((txF true ch x3.toInt (x4.toInt - x3.toInt).toNat).take 8) o.1.toInt := by
  have hf : d_X8_matched_0 x0 bb tr x3 x4 S = some o := hf
  generalize hu : (txF false ch x3.toInt (x4.toInt - x3.toInt).toNat).take 8 = u
  have z0 : (0 : Int32).toInt = 0 := rfl
  have hub : ∀ i, 0 ≤ wA u i ∧ wA u i ≤ 127 := fun i => by rw [← hu]; exact wA_b (txF_b hcb) i
  have hul : u.length ≤ 8 := by rw [← hu, List.length_take]; omega
  have hwl : (ckW u).length ≤ 8 := by
    unfold ckW
    split
    · rw [List.length_take]; omega
    · exact hul
  have hwb : ∀ i, 0 ≤ wA (ckW u) i ∧ wA (ckW u) i ≤ 127 := fun i => by
    unfold ckW
    split
    · rw [wA_take]
      split
      · exact hub i
      · omega
    · exact hub i
  have k8 := hS.2.1.1
  have ktb := hS.1.1.2.2.1.1
  have kab := hS.1.2.1.2.1
  have bare : ∀ S1, SRr S1 x0 ru rw fa tb ab bb m sd rt ps kw kb → MTF S S1 x0 rw tb ab fa → ¬ (POK (ckW u) ∧ 0 < NW1 m sd rt ps kw kb ko (ckW u) (ckO u)) → d_X8_matched_103 x0 bb tr x3 x4 S1 = some o → SRr o.2 x0 ru rw fa tb ab bb m sd rt ps kw kb ∧ MTF S o.2 x0 rw tb ab fa ∧ RSc m sd rt ps kw kb ko u ((txF true ch x3.toInt (x4.toInt - x3.toInt).toNat).take 8) o.1.toInt := by
    intro S1 R1 m1 hn hf
    obtain ⟨g1, g2, g3⟩ := mt_103 R1 (by rw [(m1.1 tr (by rw [kt]; decide)).1]; exact kt) hne ((mtf_rw m1 kt hne k8 ktb kab).trans hch) hcb h3 h4 hko hM hr hs2 rfl hf
    exact ⟨g1, mtf_t m1 g2, Or.inr ⟨hn, g3⟩⟩
  unfold d_X8_matched_0 at hf
  obtain ⟨-, hf⟩ := m_chkE hf
  obtain ⟨⟨r2, S3⟩, h_r2, hf⟩ := m_cal2E hf
  dsimp only at hf
  obtain ⟨T3, m3, c9, w3⟩ := p_copyWhole (tb := tb) (ab := ab) (fa := fa) hS kt hne hch h3 h4 h_r2
  dsimp only at T3 m3 c9 w3
  rw [hu] at c9 w3
  have R3 := sr_m hS T3 m3
  obtain ⟨-, hf⟩ := m_chkE hf
  obtain ⟨⟨r6, S6c⟩, h_r6, hf⟩ := m_calE hf
  dsimp only at hf
  obtain ⟨R6, m6, i9, b6, q6, f6⟩ := p_pg R3 w3 hwb hwl h_r6
  obtain ⟨-, hf⟩ := m_chkE hf
  rcases m_ifE hf with ⟨c1, hf⟩ | ⟨c1, hf⟩
  · skip
    replace c1 := ti_eqP (a := r6) (b := (0 : Int32)) c1 rfl (show (0 : Int32).toInt = 0 from rfl)
    exact bare _ R6 (mtf_t m3 m6) (fun h => by have := q6.2 h.1; omega) hf
  · skip
    replace c1 := ti_eqN (a := r6) (b := (0 : Int32)) c1 rfl (show (0 : Int32).toInt = 0 from rfl)
    obtain ⟨-, hf⟩ := m_chkE hf
    obtain ⟨⟨r7, S7c⟩, h_r7, hf⟩ := m_calE hf
    dsimp only at hf
    obtain ⟨tq, hL, ht1, ht2⟩ := f6 (by omega)
    have hok := q6.1 (by omega)
    have pr := pr_rng (ckW u)
    have cs3 : pCs (ckW u) = 0 ∨ pCs (ckW u) = 2 ∨ pCs (ckW u) = -2 := by
      unfold pCs
      split
      · exact Or.inr (Or.inl rfl)
      · split
        · exact Or.inr (Or.inr rfl)
        · exact Or.inl rfl
    have G7 := p_gather R6 hL hko hM hr hs2 cs3 ht1 (bc_rng hok) pr.1 (by omega) h_r7
    dsimp only at G7
    obtain ⟨R7, m7, -, i97, n7, l7⟩ := G7
    rw [ht2] at n7 l7
    have eA : AQn m sd rt ps ko (pCs (ckW u)) (prK (ckW u)) (prF (ckW u)) (prR (ckW u)) (toC sd (pCs (ckW u)) (prT (ckW u))) (bcW (ckW u)) (prX (ckW u)) = AQw m sd rt ps ko false (ckW u) := rfl
    rw [eA] at n7 l7
    have mA := mtf_t (mtf_t m3 m6) m7
    obtain ⟨-, hf⟩ := m_chkE hf
    have hJ : MJ S S7c x0 ru rw fa tb ab bb m sd rt ps kw kb ko (ckW u) (ckO u) (-1) 0 0 := ⟨R7, mA, by rw [i97, i9]; exact c9, n7, l7, rfl, fun h => absurd h (by decide)⟩
    rcases mt_29 hko hM hr hs2 hok mFuel (-1) 0 0 S7c (by omega) hJ hf with ⟨e, S1, R1, m1, hf1⟩ | ⟨e, R1, m1, e2⟩
    · exact bare S1 R1 m1 (fun h => by omega) hf1
    · exact ⟨R1, m1, Or.inl ⟨hok, e, e2⟩⟩
end MTC
