/-- a word fits a move -/
def FW (m : Int → Int) (any : Bool) (w : List Int) (x : Int) : Prop := ∃ ap : Int, 0 ≤ ap ∧ ap ≤ 3 ∧ mayA m x ap ∧ w = spW m x ap (tkA any m x)
section BRG
variable {m : Int → Int} {sd rt ps kw kb ko : Int} {w : List Int} {any : Bool}
theorem txF_l {lo : Bool} {ch : Int → Int} : ∀ {k : Nat} {a : Int}, (txF lo ch a k).length ≤ k
  | 0, a => Nat.le_refl _
  | k + 1, a => by
    by_cases h : lo = true ∧ (ch a = 120 ∨ ch a = 43 ∨ ch a = 35)
    · rw [txF_y h]
      exact Nat.le_succ_of_le txF_l
    · rw [txF_n h]
      exact Nat.succ_le_succ txF_l
theorem txF_f {ch : Int → Int} : ∀ {k : Nat} {a : Int}, (txF false ch a k).length = k ∧ txF false ch a (k + 1) = txF false ch a k ++ [ch (a + k)]
  | 0, a => ⟨rfl, by
    rw [txF_n (fun h => absurd h.1 (by decide)), show a + ((0 : Nat) : Int) = a by omega]
    rfl⟩
  | k + 1, a => by
    obtain ⟨h1, h2⟩ := txF_f (ch := ch) (k := k) (a := a + 1)
    refine ⟨?_, ?_⟩
    · rw [txF_n (fun h => absurd h.1 (by decide)), List.length_cons, h1]
    · rw [txF_n (k := k + 1) (fun h => absurd h.1 (by decide)), h2, txF_n (k := k) (fun h => absurd h.1 (by decide)), show a + 1 + (k : Int) = a + ((k + 1 : Nat) : Int) by omega]
      rfl
theorem txF_x {ch : Int → Int} : ∀ {k : Nat} {a : Int}, ∀ c ∈ txF true ch a k, c ≠ 120
  | 0, a, c, hc => by cases hc
  | k + 1, a, c, hc => by
    by_cases h : (true : Bool) = true ∧ (ch a = 120 ∨ ch a = 43 ∨ ch a = 35)
    · rw [txF_y h] at hc
      exact txF_x c hc
    · rw [txF_n h] at hc
      rcases List.mem_cons.1 hc with e | e
      · rw [e]
        intro e2
        exact h ⟨rfl, Or.inl e2⟩
      · exact txF_x c e
/-- a legal king's move by two is castling -/
theorem lg_cas {x : Int} (hs : sd = 0 ∨ sd = 1) (hL : LGx m sd rt ps ko x) (h : m (x % 64) % 8 = 6 ∧ (x / 64 % 64 = x % 64 + 2 ∨ x / 64 % 64 = x % 64 - 2)) : cas m (x % 64) (x / 64 % 64) ∧ x % 64 = 4 + 56 * sd ∧ x / 4096 = 0 := by
  obtain ⟨hx, hr, hp, -⟩ := hL
  obtain ⟨-, -, h3⟩ := hr
  have h0 : x / 4096 = 0 := by unfold PRo at hp; omega
  rcases h3 with h3 | ⟨-, h3⟩
  · omega
  · rcases h3 with h3 | ⟨h3, h4⟩
    · exfalso
      rcases h3 with ⟨k, -⟩ | ⟨k, -⟩ | ⟨-, g⟩ | ⟨g, -⟩
      · omega
      · omega
      · unfold kin at g
        omega
      · unfold lin at g
        omega
    · exact ⟨h3, h4.1, h0⟩
theorem vld_m {x fl rk tk : Int} (hM : MBd m) (hL : LGx m sd rt ps ko x) (hf : fl = -1 ∨ fl = x % 64 % 8) (hr : rk = -1 ∨ rk = x % 64 / 8) (h1 : m (x % 64) % 8 = 1 → rk = -1) (ht : tk = 0 ∨ tk = 1) : vld (m (x % 64) % 8) fl rk tk (x / 64 % 64) (x / 4096) := by
  obtain ⟨hx, hr2, hp, -⟩ := hL
  have b := hM (x % 64)
  have n0 := hr2.1.1
  unfold PRo at hp
  unfold vld
  omega
theorem prT_7 : prT (strL 7) = -1 := by decide
theorem prT_8 : prT (strL 8) = -1 := by decide
theorem ok_cs (h : PRSok w) : pCs w = 0 := by
  unfold pCs
  rw [if_neg (fun e => h.2.1 (by rw [e]; exact prT_7)), if_neg (fun e => h.2.1 (by rw [e]; exact prT_8))]
theorem pCs_7 : pCs (strL 7) = 2 := if_pos rfl
theorem pCs_8 : pCs (strL 8) = -2 := by
  unfold pCs
  rw [if_neg (fun e => str_78 e.symm), if_pos rfl]
theorem tkA_01 {x : Int} : tkA any m x = 0 ∨ tkA any m x = 1 := by
  unfold tkA
  split
  · exact Or.inl rfl
  · split
    · exact Or.inr rfl
    · exact Or.inl rfl
/-- what a fitting word tells -/
theorem fw_to {x : Int} (hP : POS m sd rt ps kw kb) (hL : LGx m sd rt ps ko x) (h : FW m any w x) : POK w ∧ x / 64 % 64 = toC sd (pCs w) (prT w) ∧ x / 4096 = bcW w ∧ askC m sd (pCs w) (prK w) (prF w) (prR w) (toC sd (pCs w) (prT w)) (bcW w) (if any = true then -1 else prX w) (x % 64) := by
  have hs := hP.1
  have hM := hP.2.1
  obtain ⟨ap, p0, p3, hmay, hw⟩ := h
  obtain ⟨hx, hr, hp, hsf⟩ := id hL
  by_cases hc : m (x % 64) % 8 = 6 ∧ (x / 64 % 64 = x % 64 + 2 ∨ x / 64 % 64 = x % 64 - 2)
  · obtain ⟨c1, c2, c3⟩ := lg_cas hs hL hc
    unfold spW at hw
    rw [if_pos hc] at hw
    by_cases d : x % 64 < x / 64 % 64
    · rw [if_pos d] at hw
      have e1 : pCs w = 2 := by rw [hw]; exact pCs_7
      have e2 : toC sd (pCs w) (prT w) = x / 64 % 64 := by
        unfold toC
        rw [e1, if_neg (by decide)]
        omega
      have e3 : bcW w = 0 := by
        unfold bcW
        rw [e1, if_neg (by decide)]
      rw [e2, e3]
      exact ⟨Or.inl hw, rfl, c3, Or.inl ⟨by rw [e1]; decide, c2, c1⟩⟩
    · rw [if_neg d] at hw
      have e1 : pCs w = -2 := by rw [hw]; exact pCs_8
      have e2 : toC sd (pCs w) (prT w) = x / 64 % 64 := by
        unfold toC
        rw [e1, if_neg (by decide)]
        omega
      have e3 : bcW w = 0 := by
        unfold bcW
        rw [e1, if_neg (by decide)]
      rw [e2, e3]
      exact ⟨Or.inr (Or.inl hw), rfl, c3, Or.inl ⟨by rw [e1]; decide, c2, c1⟩⟩
  · unfold spW at hw
    rw [if_neg hc] at hw
    have hmay2 : m (x % 64) % 8 ≠ 1 ∨ ap = 1 ∨ (ap = 0 ∧ ¬ tkg m (x % 64) (x / 64 % 64)) := hmay.elim (fun g => absurd g.1 hc) (fun g => g.2)
    have hfl : (if ap % 2 = 1 then x % 64 % 8 else -1) = -1 ∨ (if ap % 2 = 1 then x % 64 % 8 else -1) = x % 64 % 8 := by
      split
      · exact Or.inr rfl
      · exact Or.inl rfl
    have hrk : (if 1 < ap then x % 64 / 8 else -1) = -1 ∨ (if 1 < ap then x % 64 / 8 else -1) = x % 64 / 8 := by
      split
      · exact Or.inr rfl
      · exact Or.inl rfl
    have hv := vld_m (tk := tkA any m x) hM hL hfl hrk (fun h => by rw [if_neg (by omega)]) tkA_01
    obtain ⟨g1, g2, g3, g4, g5, g6, g7⟩ := pr_of hv
    rw [← hw] at g1 g2 g3 g4 g5 g6 g7
    have e1 := ok_cs g1
    have e2 : toC sd (pCs w) (prT w) = x / 64 % 64 := by
      unfold toC
      rw [if_pos e1]; exact g6
    have e3 : bcW w = x / 4096 := by
      unfold bcW
      rw [if_pos e1]; exact g7
    rw [e2, e3]
    refine ⟨Or.inr (Or.inr g1), rfl, rfl, Or.inr ⟨e1, ?_, ?_, ?_, ?_, ?_, ?_, ?_⟩⟩
    · have := hr.1.2
      rw [g2]; omega
    · exact fun g => hc ⟨g.1, g.2.2⟩
    · rw [g3]; exact hfl
    · rw [g4]; exact hrk
    · rintro ⟨a1, a2, a3⟩
      rw [g2] at a1
      rw [g3] at a3
      rcases hmay2 with h | h | h
      · exact h a1
      · rw [h, if_pos (by decide)] at a3; omega
      · exact h.2 a2
    · by_cases ha : any = true
      · rw [if_pos ha]; exact Or.inl rfl
      · right
        rw [if_neg ha, g5]
        unfold tkA tkg
        rw [if_neg ha]
        split
        · rename_i t
          exact ⟨fun _ => rfl, fun _ => t⟩
        · rename_i t
          exact ⟨fun h => absurd h t, fun h => absurd h (by decide)⟩
    · unfold PRo at hp
      omega
theorem wA_mem {u : List Int} {i c : Int} (h : wA u i = c) (hc : c ≠ 0) : c ∈ u := by
  by_cases g : 0 ≤ i ∧ i < (u.length : Int)
  · have e : wA u i = u[i.toNat]'(by omega) := by
      have := wA_in (w := u) (i := i.toNat) (by omega)
      rw [← this]
      congr 1
      omega
    rw [← h, e]
    exact List.getElem_mem _
  · rw [wA_out (by omega)] at h
    exact absurd h.symm hc
theorem fw_of {x : Int} (hP : POS m sd rt ps kw kb) (hL : LGx m sd rt ps ko x) (hx9 : any = true → ∀ c ∈ w, c ≠ 120) (hok : POK w) (h1 : x / 64 % 64 = toC sd (pCs w) (prT w)) (h2 : x / 4096 = bcW w) (hq : askC m sd (pCs w) (prK w) (prF w) (prR w) (toC sd (pCs w) (prT w)) (bcW w) (if any = true then -1 else prX w) (x % 64)) : FW m any w x := by
  have hs := hP.1
  have hM := hP.2.1
  obtain ⟨hx, hr, hp, hsf⟩ := id hL
  rw [← h1, ← h2] at hq
  rcases hq with ⟨a1, a2, a3⟩ | ⟨a1, a2, a3, a4, a5, a6, a7, a8⟩
  · have hc : m (x % 64) % 8 = 6 ∧ (x / 64 % 64 = x % 64 + 2 ∨ x / 64 % 64 = x % 64 - 2) := ⟨a3.1, a3.2.2⟩
    refine ⟨0, by decide, by decide, Or.inl ⟨hc, rfl⟩, ?_⟩
    unfold spW
    rw [if_pos hc]
    unfold toC at h1
    rw [if_neg a1] at h1
    rcases hok with h | h | h
    · rw [h, pCs_7] at h1
      rw [if_pos (by omega)]
      exact h
    · rw [h, pCs_8] at h1
      rw [if_neg (by omega)]
      exact h
    · exact absurd (ok_cs h) a1
  · have ok : PRSok w := by
      rcases hok with h | h | h
      · rw [h, pCs_7] at a1; omega
      · rw [h, pCs_8] at a1; omega
      · exact h
    obtain ⟨hv, hw⟩ := pr_to ok
    have e1 : prT w = x / 64 % 64 := by
      unfold toC at h1
      rw [if_pos a1] at h1
      exact h1.symm
    have e2 : prB w = x / 4096 := by
      unfold bcW at h2
      rw [if_pos a1] at h2
      exact h2.symm
    have hMa := hM (x % 64)
    have hk1 := hv.1
    have e3 : m (x % 64) % 8 = prK w := by omega
    have hnc : ¬ (m (x % 64) % 8 = 6 ∧ (x / 64 % 64 = x % 64 + 2 ∨ x / 64 % 64 = x % 64 - 2)) := fun h => a3 (lg_cas hs hL h).1
    have et : tkA any m x = prX w := by
      by_cases ha : any = true
      · have hz : prX w = 0 := by
          unfold prX
          rw [if_neg (fun h => hx9 ha 120 (wA_mem h.2 (by decide)) rfl)]
        rw [hz]
        unfold tkA
        rw [if_pos ha]
      · rw [if_neg ha] at a7
        have px : prX w = 0 ∨ prX w = 1 := (pr_rng w).2.1
        have a7' : tkg m (x % 64) (x / 64 % 64) ↔ prX w = 1 := a7.resolve_left (fun h => by omega)
        unfold tkA
        rw [if_neg ha]
        unfold tkg at a7'
        split
        · rename_i t
          exact (a7'.1 t).symm
        · rename_i t
          rcases px with h | h
          · exact h.symm
          · exact absurd (a7'.2 h) t
    have hfr : ∀ ap : Int, (ap % 2 = 1 ↔ prF w ≠ -1) → (1 < ap ↔ prR w ≠ -1) → w = spW m x ap (tkA any m x) := by
      intro ap b1 b2
      unfold spW
      rw [if_neg hnc, et]
      have f1 : (if ap % 2 = 1 then x % 64 % 8 else -1) = prF w := by
        split
        · rename_i t
          exact (a4.resolve_left (b1.1 t)).symm
        · rename_i t
          by_cases h : prF w = -1
          · exact h.symm
          · exact absurd (b1.2 h) t
      have f2 : (if 1 < ap then x % 64 / 8 else -1) = prR w := by
        split
        · rename_i t
          exact (a5.resolve_left (b2.1 t)).symm
        · rename_i t
          by_cases h : prR w = -1
          · exact h.symm
          · exact absurd (b2.2 h) t
      rw [f1, f2, e3, ← e1, ← e2]
      exact hw
    have hk : prK w = 1 → prR w = -1 := hv.2.2.2.1
    by_cases c1 : prF w = -1
    · by_cases c2 : prR w = -1
      · refine ⟨0, by decide, by decide, Or.inr ⟨hnc, ?_⟩, hfr 0 ⟨fun h => absurd h (by decide), fun h => absurd c1 h⟩ ⟨fun h => absurd h (by decide), fun h => absurd c2 h⟩⟩
        by_cases k1 : m (x % 64) % 8 = 1
        · exact Or.inr (Or.inr ⟨rfl, fun h => a6 ⟨by omega, h, c1⟩⟩)
        · exact Or.inl k1
      · exact ⟨2, by decide, by decide, Or.inr ⟨hnc, Or.inl (fun h => c2 (hk (by omega)))⟩, hfr 2 ⟨fun h => absurd h (by decide), fun h => absurd c1 h⟩ ⟨fun _ => c2, fun _ => by decide⟩⟩
    · by_cases c2 : prR w = -1
      · exact ⟨1, by decide, by decide, Or.inr ⟨hnc, Or.inr (Or.inl rfl)⟩, hfr 1 ⟨fun _ => c1, fun _ => by decide⟩ ⟨fun h => absurd h (by decide), fun h => absurd c2 h⟩⟩
      · exact ⟨3, by decide, by decide, Or.inr ⟨hnc, Or.inl (fun h => c2 (hk (by omega)))⟩, hfr 3 ⟨fun _ => c1, fun _ => by decide⟩ ⟨fun _ => c2, fun _ => by decide⟩⟩
/-- how a fitting word ends, and how long it is -/
theorem fw_len {x : Int} (hP : POS m sd rt ps kw kb) (hL : LGx m sd rt ps ko x) (h : FW m any w x) : 2 ≤ w.length ∧ w.length ≤ 6 ∧ wA w ((w.length : Int) - 1) ≠ 43 ∧ wA w ((w.length : Int) - 1) ≠ 35 := by
  obtain ⟨hok, -⟩ := fw_to hP hL h
  rcases hok with e | e | e
  · rw [e]; decide
  · rw [e]; decide
  · obtain ⟨hv, hw⟩ := pr_to e
    obtain ⟨g1, g2, g3, g4, g5, g6, g7⟩ := hv
    have ht : prT w ≠ -1 := e.2.1
    have hT := sqO_ok ht
    have key : ∀ (A B C D E : List Int) (f r : Int), A.length ≤ 1 → B.length ≤ 1 → C.length ≤ 1 → D.length ≤ 1 → (A.length + C.length = 0 ∧ E.length = 2 ∨ E.length = 0) → (∀ c ∈ E, c ≠ 43 ∧ c ≠ 35) → (49 ≤ r ∧ r ≤ 56) → 2 ≤ (A ++ (B ++ (C ++ (D ++ ([f, r] ++ E))))).length ∧ (A ++ (B ++ (C ++ (D ++ ([f, r] ++ E))))).length ≤ 6 ∧ wA (A ++ (B ++ (C ++ (D ++ ([f, r] ++ E))))) (((A ++ (B ++ (C ++ (D ++ ([f, r] ++ E))))).length : Int) - 1) ≠ 43 ∧ wA (A ++ (B ++ (C ++ (D ++ ([f, r] ++ E))))) (((A ++ (B ++ (C ++ (D ++ ([f, r] ++ E))))).length : Int) - 1) ≠ 35 := by
      intro A B C D E f r hA hB hC hD hE hEc hr
      have hl : (A ++ (B ++ (C ++ (D ++ ([f, r] ++ E))))).length = A.length + (B.length + (C.length + (D.length + (2 + E.length)))) := by
        simp only [List.length_append]
        rfl
      refine ⟨by rw [hl]; omega, by rw [hl]; omega, ?_⟩
      have last : ∀ u : List Int, u ≠ [] → ∀ v : List Int, wA (v ++ u) (((v ++ u).length : Int) - 1) = wA u ((u.length : Int) - 1) := by
        intro u hu v
        have hu0 : 0 < u.length := List.length_pos_iff.2 hu
        have h1 := wA_in (w := v ++ u) (i := (v ++ u).length - 1) (by rw [List.length_append]; omega)
        have h2 := wA_in (w := u) (i := u.length - 1) (by omega)
        rw [show (((v ++ u).length - 1 : Nat) : Int) = ((v ++ u).length : Int) - 1 by rw [List.length_append]; omega] at h1
        rw [show ((u.length - 1 : Nat) : Int) = (u.length : Int) - 1 by omega] at h2
        rw [h1, h2, List.getElem_append_right (by rw [List.length_append]; omega)]
        congr 1
        rw [List.length_append]
        omega
      rw [show A ++ (B ++ (C ++ (D ++ ([f, r] ++ E)))) = (A ++ (B ++ (C ++ (D ++ [f])))) ++ ([r] ++ E) by simp only [List.append_assoc, List.cons_append, List.nil_append]]
      rw [last ([r] ++ E) (by intro h; cases h)]
      have cc : ∀ c ∈ ([r] ++ E), c ≠ 43 ∧ c ≠ 35 := fun c hc => by
        rcases List.mem_cons.1 hc with e | e
        · rw [e]; omega
        · exact hEc c e
      have hin := wA_in (w := [r] ++ E) (i := ([r] ++ E).length - 1) (by show E.length + 1 - 1 < E.length + 1; omega)
      rw [show ((([r] ++ E).length - 1 : Nat) : Int) = (([r] ++ E).length : Int) - 1 by show ((E.length + 1 - 1 : Nat) : Int) = ((E.length + 1 : Nat) : Int) - 1; omega] at hin
      rw [hin]
      exact cc _ (List.getElem_mem _)
    have lb := ltK_b (prB w)
    rw [hw]
    unfold rend
    have q : ∀ (c : Prop) [Decidable c] (u : List Int) (n : Nat), u.length ≤ n → (if c then u else []).length ≤ n := fun c _ u n hu => by
      split
      · exact hu
      · exact Nat.zero_le _
    refine key _ _ _ _ _ _ _ (q _ _ 1 (Nat.le_refl _)) (q _ _ 1 (Nat.le_refl _)) (q _ _ 1 (Nat.le_refl _)) (q _ _ 1 (Nat.le_refl _)) ?_ ?_ (by omega)
    · by_cases c : 2 ≤ prB w
      · left
        have k1 : prK w = 1 := by omega
        rw [if_neg (by omega), if_neg (by have := g4 k1; omega), if_pos c]
        exact ⟨rfl, rfl⟩
      · right
        rw [if_neg c]
        rfl
    · intro c hc
      split at hc
      · rename_i c2
        have : prB w = 2 ∨ prB w = 3 ∨ prB w = 4 ∨ prB w = 5 := by omega
        rcases List.mem_cons.1 hc with e | e
        · rw [e]; decide
        · rw [List.mem_singleton.1 e]
          rcases this with h | h | h | h <;> rw [h] <;> decide
      · cases hc
/-- counting by the square that a move comes from -/
theorem cnt_key {Q : Nat → Prop} {R : Nat → Prop} {t0 b0 : Nat} (ht : t0 < 64) (hb : b0 < 8) (h : ∀ key, key < 32768 → (Q key ↔ key / 8 % 64 = t0 ∧ key % 8 = b0 ∧ R (key / 512))) : ∀ a, a ≤ 64 → cnt Q (512 * a) = cnt R a
  | 0, _ => rfl
  | a + 1, ha => by
    have ih := cnt_key ht hb h a (by omega)
    have e1 : cnt Q (512 * a + (t0 * 8 + b0)) = cnt Q (512 * a) := cnt_gap (by omega) (fun j j1 j2 hq => by
      obtain ⟨h1, h2, -⟩ := (h j (by omega)).1 hq
      omega)
    have k1 : (512 * a + (t0 * 8 + b0)) / 8 % 64 = t0 := by omega
    have k2 : (512 * a + (t0 * 8 + b0)) % 8 = b0 := by omega
    have k3 : (512 * a + (t0 * 8 + b0)) / 512 = a := by omega
    have e2 : cnt Q (512 * (a + 1)) = cnt Q (512 * a + (t0 * 8 + b0) + 1) := cnt_gap (by omega) (fun j j1 j2 hq => by
      obtain ⟨h1, h2, -⟩ := (h j (by omega)).1 hq
      omega)
    have hk := h (512 * a + (t0 * 8 + b0)) (by omega)
    rw [k3] at hk
    by_cases hr : R a
    · rw [e2, cnt_y (hk.2 ⟨k1, k2, hr⟩), cnt_y hr, e1, ih]
    · rw [e2, cnt_n (fun hq => hr (hk.1 hq).2.2), cnt_n hr, e1, ih]
theorem aq_lg {a : Nat} (hP : POS m sd rt ps kw kb) (hok : POK w) (ha : a < 64) (hq : AQw m sd rt ps ko any w a) : LGx m sd rt ps ko (mvW sd w a) := by
  obtain ⟨b1, b2, b3, b4, b5⟩ := mvW_b (a := a) hP.1 hok ha
  obtain ⟨h1, h2, h3⟩ := hq
  refine ⟨⟨b1, b2⟩, ?_⟩
  rw [b3, b4, b5]
  refine ⟨h2, ?_, h3⟩
  have hbc := bc_rng hok
  rcases h1 with ⟨c1, c2, c3⟩ | ⟨c1, -, -, -, -, -, -, c8⟩
  · left
    refine ⟨?_, fun h => ?_⟩
    · unfold bcW
      rw [if_neg c1]
    · have := c3.1
      omega
  · have hb5 : bcW w = 0 ∨ (2 ≤ bcW w ∧ bcW w ≤ 5) := by
      have ok : PRSok w := by
        rcases hok with h | h | h
        · rw [h, pCs_7] at c1; omega
        · rw [h, pCs_8] at c1; omega
        · exact h
      have hv := (pr_to ok).1.2.2.2.2.2.2
      unfold bcW
      rw [if_pos c1]
      omega
    by_cases e : bcW w = 0
    · exact Or.inl ⟨e, fun h => (c8.1 h) e⟩
    · have := c8.2 e
      exact Or.inr ⟨by omega, by omega, this.1, this.2⟩
theorem lg_lr {x : Int} (hP : POS m sd rt ps kw kb) (hko : ko = if sd = 0 then kw else kb) (hL : LGx m sd rt ps ko x) : LR m sd rt ps ko (kOf x) ∧ kOf x < 32768 ∧ mvk (kOf x) = x := by
  obtain ⟨hx, hr, hp, hs⟩ := hL
  obtain ⟨k1, k2, k3, k4, k5⟩ := kOf_e hx
  refine ⟨(lr_lc hP hko k1).2 ?_, k1, k5⟩
  rw [k2, k3, k4]
  exact ⟨hr, (saf_p hP (by omega) (by omega) hr hp).1 hs, hp⟩
/-- as many legal moves fit a word as the class gathers -/
theorem cnt_word {F : Int → Prop} (hP : POS m sd rt ps kw kb) (hko : ko = if sd = 0 then kw else kb) (hx9 : any = true → ∀ c ∈ w, c ≠ 120) : (POK w → cnt (fun key => LR m sd rt ps ko key ∧ (FW m any w (mvk key) ∧ F (mvk key))) 32768 = cnt (fun a => AQw m sd rt ps ko any w a ∧ F (mvW sd w a)) 64) ∧ (¬ POK w → cnt (fun key => LR m sd rt ps ko key ∧ (FW m any w (mvk key) ∧ F (mvk key))) 32768 = 0) := by
  constructor
  · intro hok
    have hb := bc_rng hok
    obtain ⟨-, -, -, b4, -⟩ := mvW_b (a := 0) hP.1 hok (by decide)
    have ht : 0 ≤ toC sd (pCs w) (prT w) ∧ toC sd (pCs w) (prT w) ≤ 63 := by omega
    refine cnt_key (t0 := (toC sd (pCs w) (prT w)).toNat) (b0 := (bcW w).toNat) (by omega) (by omega) (fun key hk => ?_) 64 (Nat.le_refl _)
    constructor
    · rintro ⟨h1, h2, h3⟩
      obtain ⟨lg, e1, e2, e3⟩ := lg_key hP hko hk h1
      obtain ⟨-, g2, g3, g4⟩ := fw_to hP lg h2
      have ea : mvk key = mvW sd w (key / 512) := by
        unfold mvW mvA
        have : mvk key = mvk key % 64 + 64 * (mvk key / 64 % 64) + 4096 * (mvk key / 4096) := by
          have := lg.1
          omega
        rw [this, e1, g2, g3]
      refine ⟨by omega, by omega, ⟨by rw [← e1]; exact g4, ?_, ?_⟩, by rw [← ea]; exact h3⟩
      · rw [← e1, ← g2]; exact lg.2.1
      · rw [← e1, ← g2, ← g3]; exact lg.2.2.2
    · rintro ⟨h1, h2, h3, h4⟩
      have lg := aq_lg hP hok (by omega) h3
      obtain ⟨b1, b2, b3, b4', b5⟩ := mvW_b (a := key / 512) hP.1 hok (by omega)
      obtain ⟨l1, l2, l3⟩ := lg_lr hP hko lg
      have ek : kOf (mvW sd w (key / 512)) = key := by
        unfold kOf
        rw [b3, b4', b5, Int.toNat_natCast]
        omega
      rw [ek] at l1 l3
      rw [l3]
      refine ⟨l1, fw_of hP lg hx9 hok b4' b5 ?_, h4⟩
      rw [b3]
      exact h3.1
  · intro hno
    refine cnt_0 (fun key hk h => ?_)
    obtain ⟨lg, -⟩ := lg_key hP hko hk h.1
    exact hno (fw_to hP lg h.2.1).1
/-- signs with their check, told by their first eight characters -/
theorem fr_ck {ch : Int → Int} {a b x : Int} (hP : POS m sd rt ps kw kb) (hL : LGx m sd rt ps ko x) (hz : ∀ i, a ≤ i → i < b → ch i ≠ 0) : FRs m sd rt ps kw kb false ch a b x ↔ FW m false (ckW ((txF false ch a (b - a).toNat).take 8)) x ∧ F1 m sd rt ps kw kb (ckO ((txF false ch a (b - a).toNat).take 8)) x := by
  have split1 : FRs m sd rt ps kw kb false ch a b x ↔ FW m false (txF false ch a (b - a).toNat) x ∨ (a < b ∧ (ch (b - 1) = 43 ∨ ch (b - 1) = 35) ∧ FW m false (txF false ch a (b - 1 - a).toNat) x ∧ csF m sd rt ps kw kb x (ch (b - 1))) := by
    constructor
    · rintro ⟨ap, p0, p3, p1, h | h⟩
      · exact Or.inl ⟨ap, p0, p3, p1, h⟩
      · exact Or.inr ⟨h.2.1, h.2.2.1, ⟨ap, p0, p3, p1, h.2.2.2.1⟩, h.2.2.2.2⟩
    · rintro (⟨ap, p0, p3, p1, h⟩ | ⟨h1, h2, ⟨ap, p0, p3, p1, h⟩, h4⟩)
      · exact ⟨ap, p0, p3, p1, Or.inl h⟩
      · exact ⟨ap, p0, p3, p1, Or.inr ⟨rfl, h1, h2, h, h4⟩⟩
  rw [split1]
  obtain ⟨n, hn⟩ : ∃ n, n = (b - a).toNat := ⟨_, rfl⟩
  rw [← hn]
  have hl : (txF false ch a n).length = n := txF_f.1
  by_cases h8 : n ≤ 8
  · have et : (txF false ch a n).take 8 = txF false ch a n := List.take_of_length_le (by omega)
    rw [et]
    by_cases hab : a < b
    · obtain ⟨k, hk⟩ : ∃ k, n = k + 1 := ⟨n - 1, by omega⟩
      have ek : (b - 1 - a).toNat = k := by omega
      have hv := (txF_f (ch := ch) (k := k) (a := a)).2
      have hlk : (txF false ch a k).length = k := txF_f.1
      have elast : wA (txF false ch a n) (((txF false ch a n).length : Int) - 1) = ch (b - 1) := by
        rw [hl, hk, hv, wA_app, if_pos (by rw [hlk]; omega)]
        congr 1
        omega
      rw [ek]
      by_cases hc : ch (b - 1) = 43 ∨ ch (b - 1) = 35
      · have eO : ckO (txF false ch a n) = ch (b - 1) := by
          unfold ckO
          rw [elast, if_pos hc]
        have eW : ckW (txF false ch a n) = txF false ch a k := by
          unfold ckW
          rw [elast, if_pos hc, hl, hk, hv]
          exact List.take_left' (by rw [hlk]; omega)
        rw [eO, eW]
        constructor
        · rintro (h | ⟨-, -, h1, h2⟩)
          · have := (fw_len hP hL h).2.2
            rw [elast] at this
            omega
          · exact ⟨h1, Or.inr h2⟩
        · rintro ⟨h1, h2 | h2⟩
          · omega
          · exact Or.inr ⟨hab, hc, h1, h2⟩
      · have eO : ckO (txF false ch a n) = 0 := by
          unfold ckO
          rw [elast, if_neg hc]
        have eW : ckW (txF false ch a n) = txF false ch a n := by
          unfold ckW
          rw [elast, if_neg hc]
        rw [eO, eW]
        exact ⟨fun h => ⟨h.elim id (fun g => absurd g.2.1 hc), Or.inl rfl⟩, fun h => Or.inl h.1⟩
    · have e0 : n = 0 := by omega
      rw [e0]
      have eW : ckW (txF false ch a 0) = [] := rfl
      rw [eW]
      constructor
      · rintro (h | h)
        · have : 2 ≤ ([] : List Int).length := (fw_len hP hL h).1
          exact absurd this (by decide)
        · exact absurd h.1 hab
      · rintro ⟨h, -⟩
        have : 2 ≤ ([] : List Int).length := (fw_len hP hL h).1
        exact absurd this (by decide)
  · have hl8 : ((txF false ch a n).take 8).length = 8 := by rw [List.length_take]; omega
    have hw7 : 7 ≤ (ckW ((txF false ch a n).take 8)).length := by
      unfold ckW
      split
      · rw [List.length_take, hl8]; decide
      · rw [hl8]; decide
    constructor
    · rintro (h | ⟨h1, -, h, -⟩)
      · have := (fw_len hP hL h).2.1
        omega
      · have := (fw_len hP hL h).2.1
        have hl2 : (txF false ch a (b - 1 - a).toNat).length = (b - 1 - a).toNat := txF_f.1
        omega
    · rintro ⟨h, -⟩
      have := (fw_len hP hL h).2.1
      omega
theorem fr_lo {ch : Int → Int} {a b x : Int} (hP : POS m sd rt ps kw kb) (hL : LGx m sd rt ps ko x) : FRs m sd rt ps kw kb true ch a b x ↔ FW m true ((txF true ch a (b - a).toNat).take 8) x := by
  have split1 : FRs m sd rt ps kw kb true ch a b x ↔ FW m true (txF true ch a (b - a).toNat) x := by
    constructor
    · rintro ⟨ap, p0, p3, p1, h | h⟩
      · exact ⟨ap, p0, p3, p1, h⟩
      · exact absurd h.1 (by decide)
    · rintro ⟨ap, p0, p3, p1, h⟩
      exact ⟨ap, p0, p3, p1, Or.inl h⟩
  rw [split1]
  by_cases h8 : (txF true ch a (b - a).toNat).length ≤ 8
  · rw [List.take_of_length_le h8]
  · constructor
    · intro h
      have := (fw_len hP hL h).2.1
      omega
    · intro h
      have := (fw_len hP hL h).2.1
      rw [List.length_take] at this
      omega
/-- both answer the same of signs -/
theorem rs_eq {ch : Int → Int} {a b v v2 : Int} (hP : POS m sd rt ps kw kb) (hko : ko = if sd = 0 then kw else kb) (hz : ∀ i, a ≤ i → i < b → ch i ≠ 0) (hc : RSc m sd rt ps kw kb ko ((txF false ch a (b - a).toNat).take 8) ((txF true ch a (b - a).toNat).take 8) v) (hr : RSr m sd rt ps kw kb ko ch a b v2) : v = v2 ∧ (0 ≤ v → LGx m sd rt ps ko v) := by
  unfold RSc at hc
  unfold RSr at hr
  generalize hu : (txF false ch a (b - a).toNat).take 8 = u at hc
  generalize hw : (txF true ch a (b - a).toNat).take 8 = w2 at hc
  have e1 : cnt (fun key => LR m sd rt ps ko key ∧ FRs m sd rt ps kw kb false ch a b (mvk key)) 32768 = cnt (fun key => LR m sd rt ps ko key ∧ (FW m false (ckW u) (mvk key) ∧ F1 m sd rt ps kw kb (ckO u) (mvk key))) 32768 := cnt_c (fun key hk => by
    refine and_congr_right (fun hl => ?_)
    have := fr_ck (ch := ch) (a := a) (b := b) hP (lg_key hP hko hk hl).1 hz
    rw [hu] at this
    exact this)
  have e2 : cnt (fun key => LR m sd rt ps ko key ∧ FRs m sd rt ps kw kb true ch a b (mvk key)) 32768 = cnt (fun key => LR m sd rt ps ko key ∧ (FW m true w2 (mvk key) ∧ True)) 32768 := cnt_c (fun key hk => by
    refine and_congr_right (fun hl => ?_)
    have := fr_lo (ch := ch) (a := a) (b := b) hP (lg_key hP hko hk hl).1
    rw [hw] at this
    exact this.trans ⟨fun h => ⟨h, trivial⟩, fun h => h.1⟩)
  have hx9 : ∀ c ∈ w2, c ≠ 120 := fun c hc => by
    rw [← hw] at hc
    exact txF_x c (List.mem_of_mem_take hc)
  obtain ⟨c1, c2⟩ := cnt_word (any := false) (w := ckW u) (F := F1 m sd rt ps kw kb (ckO u)) hP hko (fun h => absurd h (by decide))
  obtain ⟨d1, d2⟩ := cnt_word (any := true) (w := w2) (F := fun _ => True) hP hko (fun _ => hx9)
  have e3 : POK w2 → cnt (fun key => LR m sd rt ps ko key ∧ (FW m true w2 (mvk key) ∧ True)) 32768 = cnt (AQw m sd rt ps ko true w2) 64 := fun h => by
    rw [d1 h]
    exact cnt_c (fun j _ => ⟨fun g => g.1, fun g => ⟨g, trivial⟩⟩)
  rw [e1, e2] at hr
  rcases hc with ⟨ok, n1, hc⟩ | ⟨nn, hc⟩
  · have eN := c1 ok
    rw [eN] at hr
    have eN' : cnt (fun a => AQw m sd rt ps ko false (ckW u) a ∧ F1 m sd rt ps kw kb (ckO u) (mvW sd (ckW u) a)) 64 = NW1 m sd rt ps kw kb ko (ckW u) (ckO u) := rfl
    rw [eN'] at hr
    rcases hr with ⟨-, hr⟩ | ⟨hr, -⟩
    · rcases hc with ⟨k1, q, hq, aq, f1, ev⟩ | ⟨k1, ev⟩
      · rcases hr with ⟨-, key, hk, lr, fr, ev2⟩ | ⟨k2, -⟩
        · have lg := aq_lg hP ok hq aq
          obtain ⟨l1, l2, l3⟩ := lg_lr hP hko lg
          obtain ⟨b1, b2, b3, b4, b5⟩ := mvW_b (a := q) hP.1 ok hq
          have fq : FW m false (ckW u) (mvW sd (ckW u) q) := fw_of hP lg (fun h => absurd h (by decide)) ok b4 b5 (by rw [b3]; exact aq.1)
          have p1 : (fun key => LR m sd rt ps ko key ∧ (FW m false (ckW u) (mvk key) ∧ F1 m sd rt ps kw kb (ckO u) (mvk key))) (kOf (mvW sd (ckW u) q)) := by
            show LR m sd rt ps ko _ ∧ _
            rw [l3]
            exact ⟨l1, fq, f1⟩
          have p2 : (fun key => LR m sd rt ps ko key ∧ (FW m false (ckW u) (mvk key) ∧ F1 m sd rt ps kw kb (ckO u) (mvk key))) key := by
            have := fr_ck (ch := ch) (a := a) (b := b) hP (lg_key hP hko hk lr).1 hz
            rw [hu] at this
            exact ⟨lr, this.1 fr⟩
          have ekk := cnt_1 (N := 32768) (by rw [eN, eN']; exact k1) p1 p2 l2 hk
          refine ⟨?_, fun _ => by rw [ev]; exact lg⟩
          rw [ev, ev2, ← ekk, l3]
        · exact absurd k1 k2
      · rcases hr with ⟨k2, -⟩ | ⟨-, ev2⟩
        · exact absurd k2 k1
        · exact ⟨by omega, fun h => by omega⟩
    · omega
  · have eN : cnt (fun key => LR m sd rt ps ko key ∧ (FW m false (ckW u) (mvk key) ∧ F1 m sd rt ps kw kb (ckO u) (mvk key))) 32768 = 0 := by
      by_cases ok : POK (ckW u)
      · rw [c1 ok]
        have : ¬ 0 < NW1 m sd rt ps kw kb ko (ckW u) (ckO u) := fun h => nn ⟨ok, h⟩
        have e9 : NW1 m sd rt ps kw kb ko (ckW u) (ckO u) = 0 := by omega
        exact e9
      · exact c2 ok
    rw [eN] at hr
    rcases hr with ⟨hr, -⟩ | ⟨-, hr⟩
    · omega
    · rcases hc with ⟨ok2, k1, ev⟩ | ⟨nk, ev⟩
      · rw [e3 ok2] at hr
        rcases hr with ⟨-, ev2⟩ | ⟨k2, -⟩
        · exact ⟨by omega, fun h => by omega⟩
        · exact absurd k1 k2
      · rcases hr with ⟨k2, ev2⟩ | ⟨-, ev2⟩
        · exfalso
          by_cases ok2 : POK w2
          · rw [e3 ok2] at k2
            exact nk ⟨ok2, k2⟩
          · rw [d2 ok2] at k2
            omega
        · exact ⟨by omega, fun h => by omega⟩
end BRG
