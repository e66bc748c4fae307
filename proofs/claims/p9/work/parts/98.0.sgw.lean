/-- the letter of a kind of man, and back -/
def ltK (k : Int) : Int := if k = 2 then 78 else if k = 3 then 66 else if k = 4 then 82 else if k = 5 then 81 else if k = 6 then 75 else 80
def kO (c : Int) : Int := if c = 80 then 1 else if c = 78 then 2 else if c = 66 then 3 else if c = 82 then 4 else if c = 81 then 5 else if c = 75 then 6 else 0
def wA (w : List Int) (i : Int) : Int := if 0 ≤ i then w.getD i.toNat 0 else 0
/-- a word of its parts: kind, file, rank, x, square, what it becomes -/
def rend (kd fl rk tk to bc : Int) : List Int := (if 2 ≤ kd then [ltK kd] else []) ++ ((if 0 ≤ fl then [97 + fl] else []) ++ ((if 0 ≤ rk then [49 + rk] else []) ++ ((if tk = 1 then [120] else []) ++ ([97 + to % 8, 49 + to / 8] ++ (if 2 ≤ bc then [61, ltK bc] else [])))))
def vld (kd fl rk tk to bc : Int) : Prop := (1 ≤ kd ∧ kd ≤ 6) ∧ (-1 ≤ fl ∧ fl ≤ 7) ∧ (-1 ≤ rk ∧ rk ≤ 7) ∧ (kd = 1 → rk = -1) ∧ (tk = 0 ∨ tk = 1) ∧ (0 ≤ to ∧ to ≤ 63) ∧ (bc = 0 ∨ (2 ≤ bc ∧ bc ≤ 5 ∧ kd = 1))
def paF (w : List Int) (st s : Int) : Int := if st < s ∧ 97 ≤ wA w st ∧ wA w st ≤ 104 then wA w st - 97 else -1
def paI (w : List Int) (st s : Int) : Int := if st < s ∧ 97 ≤ wA w st ∧ wA w st ≤ 104 then st + 1 else st
def paR (w : List Int) (kd i s : Int) : Int := if i < s ∧ kd ≠ 1 ∧ 49 ≤ wA w i ∧ wA w i ≤ 56 then wA w i - 49 else -1
def paJ (w : List Int) (kd i s : Int) : Int := if i < s ∧ kd ≠ 1 ∧ 49 ≤ wA w i ∧ wA w i ≤ 56 then i + 1 else i
def prK (w : List Int) : Int := if 2 ≤ kO (wA w 0) then kO (wA w 0) else 1
def prS (w : List Int) : Int := if 2 ≤ kO (wA w 0) then 1 else 0
def prB (w : List Int) : Int := if prK w = 1 ∧ wA w ((w.length : Int) - 2) = 61 then kO (wA w ((w.length : Int) - 1)) else 0
def prN (w : List Int) : Int := if prK w = 1 ∧ wA w ((w.length : Int) - 2) = 61 then (w.length : Int) - 2 else (w.length : Int)
def prT (w : List Int) : Int := sqO (wA w (prN w - 2)) (wA w (prN w - 1))
def prX (w : List Int) : Int := if prS w < prN w - 2 ∧ wA w (prN w - 2 - 1) = 120 then 1 else 0
def prZ (w : List Int) : Int := prN w - 2 - prX w
def prF (w : List Int) : Int := paF w (prS w) (prZ w)
def prI (w : List Int) : Int := paI w (prS w) (prZ w)
def prR (w : List Int) : Int := paR w (prK w) (prI w) (prZ w)
def prJ (w : List Int) : Int := paJ w (prK w) (prI w) (prZ w)
def PRSok (w : List Int) : Prop := (prK w = 1 ∧ wA w ((w.length : Int) - 2) = 61 → 2 ≤ prB w ∧ prB w ≤ 5) ∧ prT w ≠ -1 ∧ prJ w = prZ w
theorem kO_b (c : Int) : 0 ≤ kO c ∧ kO c ≤ 6 := by
  unfold kO
  omega
theorem lt_kO {c : Int} (h : 2 ≤ kO c) : ltK (kO c) = c := by
  unfold kO at h ⊢
  split at h
  · omega
  · split at h
    · rename_i e; rw [if_neg (by omega), if_pos e, e]; rfl
    · split at h
      · rename_i e; rw [if_neg (by omega), if_neg (by omega), if_pos e, e]; rfl
      · split at h
        · rename_i e; rw [if_neg (by omega), if_neg (by omega), if_neg (by omega), if_pos e, e]; rfl
        · split at h
          · rename_i e; rw [if_neg (by omega), if_neg (by omega), if_neg (by omega), if_neg (by omega), if_pos e, e]; rfl
          · split at h
            · rename_i e; rw [if_neg (by omega), if_neg (by omega), if_neg (by omega), if_neg (by omega), if_neg (by omega), if_pos e, e]; rfl
            · omega
theorem kO_lt {k : Int} (h : 2 ≤ k ∧ k ≤ 6) : kO (ltK k) = k := by
  have e : k = 2 ∨ k = 3 ∨ k = 4 ∨ k = 5 ∨ k = 6 := by omega
  rcases e with e | e | e | e | e <;> subst e <;> decide
theorem kO_big {c : Int} (h : 97 ≤ c ∨ c < 66) : kO c = 0 := by
  unfold kO
  omega
theorem sqO_ok {f r : Int} (h : sqO f r ≠ -1) : (97 ≤ f ∧ f ≤ 104) ∧ (49 ≤ r ∧ r ≤ 56) ∧ sqO f r = f - 97 + 8 * (r - 49) := by
  unfold sqO at h ⊢
  split at h
  · rename_i c
    rw [if_pos c]
    omega
  · omega
theorem sqO_to {to : Int} (h : 0 ≤ to ∧ to ≤ 63) : sqO (97 + to % 8) (49 + to / 8) = to := by
  unfold sqO
  rw [if_pos (by omega)]
  omega
theorem len_0 {w : List Int} (h : (w.length : Int) = 0) : w = [] := List.length_eq_zero_iff.1 (by omega)
theorem len_c {w : List Int} {n : Int} (h : (w.length : Int) = n + 1) (hn : 0 ≤ n) : ∃ a u, w = a :: u ∧ (u.length : Int) = n := by
  cases w with
  | nil => exact absurd h (by show ((0 : Nat) : Int) ≠ n + 1; omega)
  | cons a u =>
    refine ⟨a, u, rfl, ?_⟩
    have e : ((a :: u).length : Int) = (u.length : Int) + 1 := by rw [List.length_cons]; omega
    omega

theorem len_1 {w : List Int} (h : (w.length : Int) = 1) : ∃ a0, w = [a0] := by
  obtain ⟨a0, u, rfl, hu⟩ := len_c (n := 0) h (by decide)
  rw [len_0 hu]
  exact ⟨a0, rfl⟩
theorem len_2 {w : List Int} (h : (w.length : Int) = 2) : ∃ a0 a1, w = [a0, a1] := by
  obtain ⟨a0, u, rfl, hu⟩ := len_c (n := 1) h (by decide)
  obtain ⟨a1, rfl⟩ := len_1 hu
  exact ⟨a0, a1, rfl⟩
theorem len_3 {w : List Int} (h : (w.length : Int) = 3) : ∃ a0 a1 a2, w = [a0, a1, a2] := by
  obtain ⟨a0, u, rfl, hu⟩ := len_c (n := 2) h (by decide)
  obtain ⟨a1, a2, rfl⟩ := len_2 hu
  exact ⟨a0, a1, a2, rfl⟩
theorem len_4 {w : List Int} (h : (w.length : Int) = 4) : ∃ a0 a1 a2 a3, w = [a0, a1, a2, a3] := by
  obtain ⟨a0, u, rfl, hu⟩ := len_c (n := 3) h (by decide)
  obtain ⟨a1, a2, a3, rfl⟩ := len_3 hu
  exact ⟨a0, a1, a2, a3, rfl⟩
theorem len_5 {w : List Int} (h : (w.length : Int) = 5) : ∃ a0 a1 a2 a3 a4, w = [a0, a1, a2, a3, a4] := by
  obtain ⟨a0, u, rfl, hu⟩ := len_c (n := 4) h (by decide)
  obtain ⟨a1, a2, a3, a4, rfl⟩ := len_4 hu
  exact ⟨a0, a1, a2, a3, a4, rfl⟩
theorem len_6 {w : List Int} (h : (w.length : Int) = 6) : ∃ a0 a1 a2 a3 a4 a5, w = [a0, a1, a2, a3, a4, a5] := by
  obtain ⟨a0, u, rfl, hu⟩ := len_c (n := 5) h (by decide)
  obtain ⟨a1, a2, a3, a4, a5, rfl⟩ := len_5 hu
  exact ⟨a0, a1, a2, a3, a4, a5, rfl⟩
theorem of_00000 {a0 a1 : Int} (hK : kO a0 < 2) (ha : 97 ≤ a0 ∧ a0 ≤ 104) (hb : 49 ≤ a1 ∧ a1 ≤ 56) : PRSok [a0, a1] ∧ prK [a0, a1] = 1 ∧ prF [a0, a1] = -1 ∧ prR [a0, a1] = -1 ∧ prX [a0, a1] = 0 ∧ prT [a0, a1] = a0 - 97 + 8 * (a1 - 49) ∧ prB [a0, a1] = 0 := by
  have w0 : wA [a0, a1] 0 = a0 := rfl
  have w1 : wA [a0, a1] 1 = a1 := rfl
  have ln : (([a0, a1] : List Int).length : Int) = 2 := rfl
  have eK : prK [a0, a1] = 1 := by unfold prK; rw [w0, if_neg (by omega)]
  have eS : prS [a0, a1] = 0 := by unfold prS; rw [w0, if_neg (by omega)]
  have m2 : wA [a0, a1] ((([a0, a1] : List Int).length : Int) - 2) = a0 := rfl
  have m1 : wA [a0, a1] ((([a0, a1] : List Int).length : Int) - 1) = a1 := rfl
  have nE : ¬ (prK [a0, a1] = 1 ∧ wA [a0, a1] ((([a0, a1] : List Int).length : Int) - 2) = 61) := by rw [m2, eK]; omega
  have eB : prB [a0, a1] = 0 := if_neg nE
  have eN : prN [a0, a1] = 2 := if_neg nE
  have eT : prT [a0, a1] = a0 - 97 + 8 * (a1 - 49) := by
    unfold prT
    rw [eN, show wA [a0, a1] (2 - 2) = a0 from rfl, show wA [a0, a1] (2 - 1) = a1 from rfl]
    unfold sqO
    rw [if_pos (by omega)]
  have eX : prX [a0, a1] = 0 := by
    unfold prX
    rw [eN, eS, if_neg (fun h => absurd h.1 (by decide))]
  have eZ : prZ [a0, a1] = 0 := by unfold prZ; rw [eN, eX]; rfl
  have eF : prF [a0, a1] = -1 := by
    unfold prF paF
    rw [eS, eZ]
    rw [if_neg (fun h => absurd h.1 (by decide))]
  have eI : prI [a0, a1] = 0 := by
    unfold prI paI
    rw [eS, eZ]
    rw [if_neg (fun h => absurd h.1 (by decide))]
  have eR2 : prR [a0, a1] = -1 := by
    unfold prR paR
    rw [eI, eZ, eK]
    rw [if_neg (fun h => absurd h.1 (by decide))]
  have eJ2 : prJ [a0, a1] = 0 := by
    unfold prJ paJ
    rw [eI, eZ, eK]
    rw [if_neg (fun h => absurd h.1 (by decide))]
  refine ⟨⟨fun h => absurd h nE, by rw [eT]; omega, by rw [eJ2, eZ]⟩, eK, eF, eR2, eX, eT, eB⟩
theorem of_00001 {a0 a1 a2 a3 : Int} (hK : kO a0 < 2) (ha : 97 ≤ a0 ∧ a0 ≤ 104) (hb : 49 ≤ a1 ∧ a1 ≤ 56) (hE : a2 = 61) (hQ : 2 ≤ kO a3 ∧ kO a3 ≤ 5) : PRSok [a0, a1, a2, a3] ∧ prK [a0, a1, a2, a3] = 1 ∧ prF [a0, a1, a2, a3] = -1 ∧ prR [a0, a1, a2, a3] = -1 ∧ prX [a0, a1, a2, a3] = 0 ∧ prT [a0, a1, a2, a3] = a0 - 97 + 8 * (a1 - 49) ∧ prB [a0, a1, a2, a3] = kO a3 := by
  have w0 : wA [a0, a1, a2, a3] 0 = a0 := rfl
  have w1 : wA [a0, a1, a2, a3] 1 = a1 := rfl
  have w2 : wA [a0, a1, a2, a3] 2 = a2 := rfl
  have w3 : wA [a0, a1, a2, a3] 3 = a3 := rfl
  have ln : (([a0, a1, a2, a3] : List Int).length : Int) = 4 := rfl
  have eK : prK [a0, a1, a2, a3] = 1 := by unfold prK; rw [w0, if_neg (by omega)]
  have eS : prS [a0, a1, a2, a3] = 0 := by unfold prS; rw [w0, if_neg (by omega)]
  have m2 : wA [a0, a1, a2, a3] ((([a0, a1, a2, a3] : List Int).length : Int) - 2) = a2 := rfl
  have m1 : wA [a0, a1, a2, a3] ((([a0, a1, a2, a3] : List Int).length : Int) - 1) = a3 := rfl
  have eB : prB [a0, a1, a2, a3] = kO a3 := by unfold prB; rw [m2, m1, if_pos ⟨eK, hE⟩]
  have eN : prN [a0, a1, a2, a3] = 2 := by unfold prN; rw [m2, if_pos ⟨eK, hE⟩]; rfl
  have eT : prT [a0, a1, a2, a3] = a0 - 97 + 8 * (a1 - 49) := by
    unfold prT
    rw [eN, show wA [a0, a1, a2, a3] (2 - 2) = a0 from rfl, show wA [a0, a1, a2, a3] (2 - 1) = a1 from rfl]
    unfold sqO
    rw [if_pos (by omega)]
  have eX : prX [a0, a1, a2, a3] = 0 := by
    unfold prX
    rw [eN, eS, if_neg (fun h => absurd h.1 (by decide))]
  have eZ : prZ [a0, a1, a2, a3] = 0 := by unfold prZ; rw [eN, eX]; rfl
  have eF : prF [a0, a1, a2, a3] = -1 := by
    unfold prF paF
    rw [eS, eZ]
    rw [if_neg (fun h => absurd h.1 (by decide))]
  have eI : prI [a0, a1, a2, a3] = 0 := by
    unfold prI paI
    rw [eS, eZ]
    rw [if_neg (fun h => absurd h.1 (by decide))]
  have eR2 : prR [a0, a1, a2, a3] = -1 := by
    unfold prR paR
    rw [eI, eZ, eK]
    rw [if_neg (fun h => absurd h.1 (by decide))]
  have eJ2 : prJ [a0, a1, a2, a3] = 0 := by
    unfold prJ paJ
    rw [eI, eZ, eK]
    rw [if_neg (fun h => absurd h.1 (by decide))]
  refine ⟨⟨fun _ => by rw [eB]; omega, by rw [eT]; omega, by rw [eJ2, eZ]⟩, eK, eF, eR2, eX, eT, eB⟩
theorem of_00010 {a0 a1 a2 : Int} (hK : kO a0 < 2) (hX : a0 = 120) (ha : 97 ≤ a1 ∧ a1 ≤ 104) (hb : 49 ≤ a2 ∧ a2 ≤ 56) : PRSok [a0, a1, a2] ∧ prK [a0, a1, a2] = 1 ∧ prF [a0, a1, a2] = -1 ∧ prR [a0, a1, a2] = -1 ∧ prX [a0, a1, a2] = 1 ∧ prT [a0, a1, a2] = a1 - 97 + 8 * (a2 - 49) ∧ prB [a0, a1, a2] = 0 := by
  have w0 : wA [a0, a1, a2] 0 = a0 := rfl
  have w1 : wA [a0, a1, a2] 1 = a1 := rfl
  have w2 : wA [a0, a1, a2] 2 = a2 := rfl
  have ln : (([a0, a1, a2] : List Int).length : Int) = 3 := rfl
  have eK : prK [a0, a1, a2] = 1 := by unfold prK; rw [w0, if_neg (by omega)]
  have eS : prS [a0, a1, a2] = 0 := by unfold prS; rw [w0, if_neg (by omega)]
  have m2 : wA [a0, a1, a2] ((([a0, a1, a2] : List Int).length : Int) - 2) = a1 := rfl
  have m1 : wA [a0, a1, a2] ((([a0, a1, a2] : List Int).length : Int) - 1) = a2 := rfl
  have nE : ¬ (prK [a0, a1, a2] = 1 ∧ wA [a0, a1, a2] ((([a0, a1, a2] : List Int).length : Int) - 2) = 61) := by rw [m2, eK]; omega
  have eB : prB [a0, a1, a2] = 0 := if_neg nE
  have eN : prN [a0, a1, a2] = 3 := if_neg nE
  have eT : prT [a0, a1, a2] = a1 - 97 + 8 * (a2 - 49) := by
    unfold prT
    rw [eN, show wA [a0, a1, a2] (3 - 2) = a1 from rfl, show wA [a0, a1, a2] (3 - 1) = a2 from rfl]
    unfold sqO
    rw [if_pos (by omega)]
  have eX : prX [a0, a1, a2] = 1 := by
    unfold prX
    rw [eN, eS, show wA [a0, a1, a2] (3 - 2 - 1) = a0 from rfl, if_pos ⟨by decide, hX⟩]
  have eZ : prZ [a0, a1, a2] = 0 := by unfold prZ; rw [eN, eX]; rfl
  have eF : prF [a0, a1, a2] = -1 := by
    unfold prF paF
    rw [eS, eZ]
    rw [if_neg (fun h => absurd h.1 (by decide))]
  have eI : prI [a0, a1, a2] = 0 := by
    unfold prI paI
    rw [eS, eZ]
    rw [if_neg (fun h => absurd h.1 (by decide))]
  have eR2 : prR [a0, a1, a2] = -1 := by
    unfold prR paR
    rw [eI, eZ, eK]
    rw [if_neg (fun h => absurd h.1 (by decide))]
  have eJ2 : prJ [a0, a1, a2] = 0 := by
    unfold prJ paJ
    rw [eI, eZ, eK]
    rw [if_neg (fun h => absurd h.1 (by decide))]
  refine ⟨⟨fun h => absurd h nE, by rw [eT]; omega, by rw [eJ2, eZ]⟩, eK, eF, eR2, eX, eT, eB⟩
theorem of_00011 {a0 a1 a2 a3 a4 : Int} (hK : kO a0 < 2) (hX : a0 = 120) (ha : 97 ≤ a1 ∧ a1 ≤ 104) (hb : 49 ≤ a2 ∧ a2 ≤ 56) (hE : a3 = 61) (hQ : 2 ≤ kO a4 ∧ kO a4 ≤ 5) : PRSok [a0, a1, a2, a3, a4] ∧ prK [a0, a1, a2, a3, a4] = 1 ∧ prF [a0, a1, a2, a3, a4] = -1 ∧ prR [a0, a1, a2, a3, a4] = -1 ∧ prX [a0, a1, a2, a3, a4] = 1 ∧ prT [a0, a1, a2, a3, a4] = a1 - 97 + 8 * (a2 - 49) ∧ prB [a0, a1, a2, a3, a4] = kO a4 := by
  have w0 : wA [a0, a1, a2, a3, a4] 0 = a0 := rfl
  have w1 : wA [a0, a1, a2, a3, a4] 1 = a1 := rfl
  have w2 : wA [a0, a1, a2, a3, a4] 2 = a2 := rfl
  have w3 : wA [a0, a1, a2, a3, a4] 3 = a3 := rfl
  have w4 : wA [a0, a1, a2, a3, a4] 4 = a4 := rfl
  have ln : (([a0, a1, a2, a3, a4] : List Int).length : Int) = 5 := rfl
  have eK : prK [a0, a1, a2, a3, a4] = 1 := by unfold prK; rw [w0, if_neg (by omega)]
  have eS : prS [a0, a1, a2, a3, a4] = 0 := by unfold prS; rw [w0, if_neg (by omega)]
  have m2 : wA [a0, a1, a2, a3, a4] ((([a0, a1, a2, a3, a4] : List Int).length : Int) - 2) = a3 := rfl
  have m1 : wA [a0, a1, a2, a3, a4] ((([a0, a1, a2, a3, a4] : List Int).length : Int) - 1) = a4 := rfl
  have eB : prB [a0, a1, a2, a3, a4] = kO a4 := by unfold prB; rw [m2, m1, if_pos ⟨eK, hE⟩]
  have eN : prN [a0, a1, a2, a3, a4] = 3 := by unfold prN; rw [m2, if_pos ⟨eK, hE⟩]; rfl
  have eT : prT [a0, a1, a2, a3, a4] = a1 - 97 + 8 * (a2 - 49) := by
    unfold prT
    rw [eN, show wA [a0, a1, a2, a3, a4] (3 - 2) = a1 from rfl, show wA [a0, a1, a2, a3, a4] (3 - 1) = a2 from rfl]
    unfold sqO
    rw [if_pos (by omega)]
  have eX : prX [a0, a1, a2, a3, a4] = 1 := by
    unfold prX
    rw [eN, eS, show wA [a0, a1, a2, a3, a4] (3 - 2 - 1) = a0 from rfl, if_pos ⟨by decide, hX⟩]
  have eZ : prZ [a0, a1, a2, a3, a4] = 0 := by unfold prZ; rw [eN, eX]; rfl
  have eF : prF [a0, a1, a2, a3, a4] = -1 := by
    unfold prF paF
    rw [eS, eZ]
    rw [if_neg (fun h => absurd h.1 (by decide))]
  have eI : prI [a0, a1, a2, a3, a4] = 0 := by
    unfold prI paI
    rw [eS, eZ]
    rw [if_neg (fun h => absurd h.1 (by decide))]
  have eR2 : prR [a0, a1, a2, a3, a4] = -1 := by
    unfold prR paR
    rw [eI, eZ, eK]
    rw [if_neg (fun h => absurd h.1 (by decide))]
  have eJ2 : prJ [a0, a1, a2, a3, a4] = 0 := by
    unfold prJ paJ
    rw [eI, eZ, eK]
    rw [if_neg (fun h => absurd h.1 (by decide))]
  refine ⟨⟨fun _ => by rw [eB]; omega, by rw [eT]; omega, by rw [eJ2, eZ]⟩, eK, eF, eR2, eX, eT, eB⟩
theorem of_01000 {a0 a1 a2 : Int} (hK : kO a0 < 2) (hF : 97 ≤ a0 ∧ a0 ≤ 104) (ha : 97 ≤ a1 ∧ a1 ≤ 104) (hb : 49 ≤ a2 ∧ a2 ≤ 56) : PRSok [a0, a1, a2] ∧ prK [a0, a1, a2] = 1 ∧ prF [a0, a1, a2] = a0 - 97 ∧ prR [a0, a1, a2] = -1 ∧ prX [a0, a1, a2] = 0 ∧ prT [a0, a1, a2] = a1 - 97 + 8 * (a2 - 49) ∧ prB [a0, a1, a2] = 0 := by
  have w0 : wA [a0, a1, a2] 0 = a0 := rfl
  have w1 : wA [a0, a1, a2] 1 = a1 := rfl
  have w2 : wA [a0, a1, a2] 2 = a2 := rfl
  have ln : (([a0, a1, a2] : List Int).length : Int) = 3 := rfl
  have eK : prK [a0, a1, a2] = 1 := by unfold prK; rw [w0, if_neg (by omega)]
  have eS : prS [a0, a1, a2] = 0 := by unfold prS; rw [w0, if_neg (by omega)]
  have m2 : wA [a0, a1, a2] ((([a0, a1, a2] : List Int).length : Int) - 2) = a1 := rfl
  have m1 : wA [a0, a1, a2] ((([a0, a1, a2] : List Int).length : Int) - 1) = a2 := rfl
  have nE : ¬ (prK [a0, a1, a2] = 1 ∧ wA [a0, a1, a2] ((([a0, a1, a2] : List Int).length : Int) - 2) = 61) := by rw [m2, eK]; omega
  have eB : prB [a0, a1, a2] = 0 := if_neg nE
  have eN : prN [a0, a1, a2] = 3 := if_neg nE
  have eT : prT [a0, a1, a2] = a1 - 97 + 8 * (a2 - 49) := by
    unfold prT
    rw [eN, show wA [a0, a1, a2] (3 - 2) = a1 from rfl, show wA [a0, a1, a2] (3 - 1) = a2 from rfl]
    unfold sqO
    rw [if_pos (by omega)]
  have eX : prX [a0, a1, a2] = 0 := by
    unfold prX
    rw [eN, eS, show wA [a0, a1, a2] (3 - 2 - 1) = a0 from rfl, if_neg (fun h => by have := h.2; omega)]
  have eZ : prZ [a0, a1, a2] = 1 := by unfold prZ; rw [eN, eX]; rfl
  have eF : prF [a0, a1, a2] = a0 - 97 := by
    unfold prF paF
    rw [eS, eZ]
    rw [show wA [a0, a1, a2] 0 = a0 from rfl, if_pos ⟨by decide, hF⟩]
  have eI : prI [a0, a1, a2] = 1 := by
    unfold prI paI
    rw [eS, eZ]
    rw [show wA [a0, a1, a2] 0 = a0 from rfl, if_pos ⟨by decide, hF⟩]; rfl
  have eR2 : prR [a0, a1, a2] = -1 := by
    unfold prR paR
    rw [eI, eZ, eK]
    rw [if_neg (fun h => absurd h.1 (by decide))]
  have eJ2 : prJ [a0, a1, a2] = 1 := by
    unfold prJ paJ
    rw [eI, eZ, eK]
    rw [if_neg (fun h => absurd h.1 (by decide))]
  refine ⟨⟨fun h => absurd h nE, by rw [eT]; omega, by rw [eJ2, eZ]⟩, eK, eF, eR2, eX, eT, eB⟩
theorem of_01001 {a0 a1 a2 a3 a4 : Int} (hK : kO a0 < 2) (hF : 97 ≤ a0 ∧ a0 ≤ 104) (ha : 97 ≤ a1 ∧ a1 ≤ 104) (hb : 49 ≤ a2 ∧ a2 ≤ 56) (hE : a3 = 61) (hQ : 2 ≤ kO a4 ∧ kO a4 ≤ 5) : PRSok [a0, a1, a2, a3, a4] ∧ prK [a0, a1, a2, a3, a4] = 1 ∧ prF [a0, a1, a2, a3, a4] = a0 - 97 ∧ prR [a0, a1, a2, a3, a4] = -1 ∧ prX [a0, a1, a2, a3, a4] = 0 ∧ prT [a0, a1, a2, a3, a4] = a1 - 97 + 8 * (a2 - 49) ∧ prB [a0, a1, a2, a3, a4] = kO a4 := by
  have w0 : wA [a0, a1, a2, a3, a4] 0 = a0 := rfl
  have w1 : wA [a0, a1, a2, a3, a4] 1 = a1 := rfl
  have w2 : wA [a0, a1, a2, a3, a4] 2 = a2 := rfl
  have w3 : wA [a0, a1, a2, a3, a4] 3 = a3 := rfl
  have w4 : wA [a0, a1, a2, a3, a4] 4 = a4 := rfl
  have ln : (([a0, a1, a2, a3, a4] : List Int).length : Int) = 5 := rfl
  have eK : prK [a0, a1, a2, a3, a4] = 1 := by unfold prK; rw [w0, if_neg (by omega)]
  have eS : prS [a0, a1, a2, a3, a4] = 0 := by unfold prS; rw [w0, if_neg (by omega)]
  have m2 : wA [a0, a1, a2, a3, a4] ((([a0, a1, a2, a3, a4] : List Int).length : Int) - 2) = a3 := rfl
  have m1 : wA [a0, a1, a2, a3, a4] ((([a0, a1, a2, a3, a4] : List Int).length : Int) - 1) = a4 := rfl
  have eB : prB [a0, a1, a2, a3, a4] = kO a4 := by unfold prB; rw [m2, m1, if_pos ⟨eK, hE⟩]
  have eN : prN [a0, a1, a2, a3, a4] = 3 := by unfold prN; rw [m2, if_pos ⟨eK, hE⟩]; rfl
  have eT : prT [a0, a1, a2, a3, a4] = a1 - 97 + 8 * (a2 - 49) := by
    unfold prT
    rw [eN, show wA [a0, a1, a2, a3, a4] (3 - 2) = a1 from rfl, show wA [a0, a1, a2, a3, a4] (3 - 1) = a2 from rfl]
    unfold sqO
    rw [if_pos (by omega)]
  have eX : prX [a0, a1, a2, a3, a4] = 0 := by
    unfold prX
    rw [eN, eS, show wA [a0, a1, a2, a3, a4] (3 - 2 - 1) = a0 from rfl, if_neg (fun h => by have := h.2; omega)]
  have eZ : prZ [a0, a1, a2, a3, a4] = 1 := by unfold prZ; rw [eN, eX]; rfl
  have eF : prF [a0, a1, a2, a3, a4] = a0 - 97 := by
    unfold prF paF
    rw [eS, eZ]
    rw [show wA [a0, a1, a2, a3, a4] 0 = a0 from rfl, if_pos ⟨by decide, hF⟩]
  have eI : prI [a0, a1, a2, a3, a4] = 1 := by
    unfold prI paI
    rw [eS, eZ]
    rw [show wA [a0, a1, a2, a3, a4] 0 = a0 from rfl, if_pos ⟨by decide, hF⟩]; rfl
  have eR2 : prR [a0, a1, a2, a3, a4] = -1 := by
    unfold prR paR
    rw [eI, eZ, eK]
    rw [if_neg (fun h => absurd h.1 (by decide))]
  have eJ2 : prJ [a0, a1, a2, a3, a4] = 1 := by
    unfold prJ paJ
    rw [eI, eZ, eK]
    rw [if_neg (fun h => absurd h.1 (by decide))]
  refine ⟨⟨fun _ => by rw [eB]; omega, by rw [eT]; omega, by rw [eJ2, eZ]⟩, eK, eF, eR2, eX, eT, eB⟩
theorem of_01010 {a0 a1 a2 a3 : Int} (hK : kO a0 < 2) (hF : 97 ≤ a0 ∧ a0 ≤ 104) (hX : a1 = 120) (ha : 97 ≤ a2 ∧ a2 ≤ 104) (hb : 49 ≤ a3 ∧ a3 ≤ 56) : PRSok [a0, a1, a2, a3] ∧ prK [a0, a1, a2, a3] = 1 ∧ prF [a0, a1, a2, a3] = a0 - 97 ∧ prR [a0, a1, a2, a3] = -1 ∧ prX [a0, a1, a2, a3] = 1 ∧ prT [a0, a1, a2, a3] = a2 - 97 + 8 * (a3 - 49) ∧ prB [a0, a1, a2, a3] = 0 := by
  have w0 : wA [a0, a1, a2, a3] 0 = a0 := rfl
  have w1 : wA [a0, a1, a2, a3] 1 = a1 := rfl
  have w2 : wA [a0, a1, a2, a3] 2 = a2 := rfl
  have w3 : wA [a0, a1, a2, a3] 3 = a3 := rfl
  have ln : (([a0, a1, a2, a3] : List Int).length : Int) = 4 := rfl
  have eK : prK [a0, a1, a2, a3] = 1 := by unfold prK; rw [w0, if_neg (by omega)]
  have eS : prS [a0, a1, a2, a3] = 0 := by unfold prS; rw [w0, if_neg (by omega)]
  have m2 : wA [a0, a1, a2, a3] ((([a0, a1, a2, a3] : List Int).length : Int) - 2) = a2 := rfl
  have m1 : wA [a0, a1, a2, a3] ((([a0, a1, a2, a3] : List Int).length : Int) - 1) = a3 := rfl
  have nE : ¬ (prK [a0, a1, a2, a3] = 1 ∧ wA [a0, a1, a2, a3] ((([a0, a1, a2, a3] : List Int).length : Int) - 2) = 61) := by rw [m2, eK]; omega
  have eB : prB [a0, a1, a2, a3] = 0 := if_neg nE
  have eN : prN [a0, a1, a2, a3] = 4 := if_neg nE
  have eT : prT [a0, a1, a2, a3] = a2 - 97 + 8 * (a3 - 49) := by
    unfold prT
    rw [eN, show wA [a0, a1, a2, a3] (4 - 2) = a2 from rfl, show wA [a0, a1, a2, a3] (4 - 1) = a3 from rfl]
    unfold sqO
    rw [if_pos (by omega)]
  have eX : prX [a0, a1, a2, a3] = 1 := by
    unfold prX
    rw [eN, eS, show wA [a0, a1, a2, a3] (4 - 2 - 1) = a1 from rfl, if_pos ⟨by decide, hX⟩]
  have eZ : prZ [a0, a1, a2, a3] = 1 := by unfold prZ; rw [eN, eX]; rfl
  have eF : prF [a0, a1, a2, a3] = a0 - 97 := by
    unfold prF paF
    rw [eS, eZ]
    rw [show wA [a0, a1, a2, a3] 0 = a0 from rfl, if_pos ⟨by decide, hF⟩]
  have eI : prI [a0, a1, a2, a3] = 1 := by
    unfold prI paI
    rw [eS, eZ]
    rw [show wA [a0, a1, a2, a3] 0 = a0 from rfl, if_pos ⟨by decide, hF⟩]; rfl
  have eR2 : prR [a0, a1, a2, a3] = -1 := by
    unfold prR paR
    rw [eI, eZ, eK]
    rw [if_neg (fun h => absurd h.1 (by decide))]
  have eJ2 : prJ [a0, a1, a2, a3] = 1 := by
    unfold prJ paJ
    rw [eI, eZ, eK]
    rw [if_neg (fun h => absurd h.1 (by decide))]
  refine ⟨⟨fun h => absurd h nE, by rw [eT]; omega, by rw [eJ2, eZ]⟩, eK, eF, eR2, eX, eT, eB⟩
theorem of_01011 {a0 a1 a2 a3 a4 a5 : Int} (hK : kO a0 < 2) (hF : 97 ≤ a0 ∧ a0 ≤ 104) (hX : a1 = 120) (ha : 97 ≤ a2 ∧ a2 ≤ 104) (hb : 49 ≤ a3 ∧ a3 ≤ 56) (hE : a4 = 61) (hQ : 2 ≤ kO a5 ∧ kO a5 ≤ 5) : PRSok [a0, a1, a2, a3, a4, a5] ∧ prK [a0, a1, a2, a3, a4, a5] = 1 ∧ prF [a0, a1, a2, a3, a4, a5] = a0 - 97 ∧ prR [a0, a1, a2, a3, a4, a5] = -1 ∧ prX [a0, a1, a2, a3, a4, a5] = 1 ∧ prT [a0, a1, a2, a3, a4, a5] = a2 - 97 + 8 * (a3 - 49) ∧ prB [a0, a1, a2, a3, a4, a5] = kO a5 := by
  have w0 : wA [a0, a1, a2, a3, a4, a5] 0 = a0 := rfl
  have w1 : wA [a0, a1, a2, a3, a4, a5] 1 = a1 := rfl
  have w2 : wA [a0, a1, a2, a3, a4, a5] 2 = a2 := rfl
  have w3 : wA [a0, a1, a2, a3, a4, a5] 3 = a3 := rfl
  have w4 : wA [a0, a1, a2, a3, a4, a5] 4 = a4 := rfl
  have w5 : wA [a0, a1, a2, a3, a4, a5] 5 = a5 := rfl
  have ln : (([a0, a1, a2, a3, a4, a5] : List Int).length : Int) = 6 := rfl
  have eK : prK [a0, a1, a2, a3, a4, a5] = 1 := by unfold prK; rw [w0, if_neg (by omega)]
  have eS : prS [a0, a1, a2, a3, a4, a5] = 0 := by unfold prS; rw [w0, if_neg (by omega)]
  have m2 : wA [a0, a1, a2, a3, a4, a5] ((([a0, a1, a2, a3, a4, a5] : List Int).length : Int) - 2) = a4 := rfl
  have m1 : wA [a0, a1, a2, a3, a4, a5] ((([a0, a1, a2, a3, a4, a5] : List Int).length : Int) - 1) = a5 := rfl
  have eB : prB [a0, a1, a2, a3, a4, a5] = kO a5 := by unfold prB; rw [m2, m1, if_pos ⟨eK, hE⟩]
  have eN : prN [a0, a1, a2, a3, a4, a5] = 4 := by unfold prN; rw [m2, if_pos ⟨eK, hE⟩]; rfl
  have eT : prT [a0, a1, a2, a3, a4, a5] = a2 - 97 + 8 * (a3 - 49) := by
    unfold prT
    rw [eN, show wA [a0, a1, a2, a3, a4, a5] (4 - 2) = a2 from rfl, show wA [a0, a1, a2, a3, a4, a5] (4 - 1) = a3 from rfl]
    unfold sqO
    rw [if_pos (by omega)]
  have eX : prX [a0, a1, a2, a3, a4, a5] = 1 := by
    unfold prX
    rw [eN, eS, show wA [a0, a1, a2, a3, a4, a5] (4 - 2 - 1) = a1 from rfl, if_pos ⟨by decide, hX⟩]
  have eZ : prZ [a0, a1, a2, a3, a4, a5] = 1 := by unfold prZ; rw [eN, eX]; rfl
  have eF : prF [a0, a1, a2, a3, a4, a5] = a0 - 97 := by
    unfold prF paF
    rw [eS, eZ]
    rw [show wA [a0, a1, a2, a3, a4, a5] 0 = a0 from rfl, if_pos ⟨by decide, hF⟩]
  have eI : prI [a0, a1, a2, a3, a4, a5] = 1 := by
    unfold prI paI
    rw [eS, eZ]
    rw [show wA [a0, a1, a2, a3, a4, a5] 0 = a0 from rfl, if_pos ⟨by decide, hF⟩]; rfl
  have eR2 : prR [a0, a1, a2, a3, a4, a5] = -1 := by
    unfold prR paR
    rw [eI, eZ, eK]
    rw [if_neg (fun h => absurd h.1 (by decide))]
  have eJ2 : prJ [a0, a1, a2, a3, a4, a5] = 1 := by
    unfold prJ paJ
    rw [eI, eZ, eK]
    rw [if_neg (fun h => absurd h.1 (by decide))]
  refine ⟨⟨fun _ => by rw [eB]; omega, by rw [eT]; omega, by rw [eJ2, eZ]⟩, eK, eF, eR2, eX, eT, eB⟩
theorem of_10000 {a0 a1 a2 : Int} (hK : 2 ≤ kO a0) (ha : 97 ≤ a1 ∧ a1 ≤ 104) (hb : 49 ≤ a2 ∧ a2 ≤ 56) : PRSok [a0, a1, a2] ∧ prK [a0, a1, a2] = kO a0 ∧ prF [a0, a1, a2] = -1 ∧ prR [a0, a1, a2] = -1 ∧ prX [a0, a1, a2] = 0 ∧ prT [a0, a1, a2] = a1 - 97 + 8 * (a2 - 49) ∧ prB [a0, a1, a2] = 0 := by
  have w0 : wA [a0, a1, a2] 0 = a0 := rfl
  have w1 : wA [a0, a1, a2] 1 = a1 := rfl
  have w2 : wA [a0, a1, a2] 2 = a2 := rfl
  have ln : (([a0, a1, a2] : List Int).length : Int) = 3 := rfl
  have eK : prK [a0, a1, a2] = kO a0 := by unfold prK; rw [w0, if_pos hK]
  have eS : prS [a0, a1, a2] = 1 := by unfold prS; rw [w0, if_pos hK]
  have m2 : wA [a0, a1, a2] ((([a0, a1, a2] : List Int).length : Int) - 2) = a1 := rfl
  have m1 : wA [a0, a1, a2] ((([a0, a1, a2] : List Int).length : Int) - 1) = a2 := rfl
  have nE : ¬ (prK [a0, a1, a2] = 1 ∧ wA [a0, a1, a2] ((([a0, a1, a2] : List Int).length : Int) - 2) = 61) := by rw [m2, eK]; omega
  have eB : prB [a0, a1, a2] = 0 := if_neg nE
  have eN : prN [a0, a1, a2] = 3 := if_neg nE
  have eT : prT [a0, a1, a2] = a1 - 97 + 8 * (a2 - 49) := by
    unfold prT
    rw [eN, show wA [a0, a1, a2] (3 - 2) = a1 from rfl, show wA [a0, a1, a2] (3 - 1) = a2 from rfl]
    unfold sqO
    rw [if_pos (by omega)]
  have eX : prX [a0, a1, a2] = 0 := by
    unfold prX
    rw [eN, eS, if_neg (fun h => absurd h.1 (by decide))]
  have eZ : prZ [a0, a1, a2] = 1 := by unfold prZ; rw [eN, eX]; rfl
  have eF : prF [a0, a1, a2] = -1 := by
    unfold prF paF
    rw [eS, eZ]
    rw [if_neg (fun h => absurd h.1 (by decide))]
  have eI : prI [a0, a1, a2] = 1 := by
    unfold prI paI
    rw [eS, eZ]
    rw [if_neg (fun h => absurd h.1 (by decide))]
  have eR2 : prR [a0, a1, a2] = -1 := by
    unfold prR paR
    rw [eI, eZ, eK]
    rw [if_neg (fun h => absurd h.1 (by decide))]
  have eJ2 : prJ [a0, a1, a2] = 1 := by
    unfold prJ paJ
    rw [eI, eZ, eK]
    rw [if_neg (fun h => absurd h.1 (by decide))]
  refine ⟨⟨fun h => absurd h nE, by rw [eT]; omega, by rw [eJ2, eZ]⟩, eK, eF, eR2, eX, eT, eB⟩
theorem of_10010 {a0 a1 a2 a3 : Int} (hK : 2 ≤ kO a0) (hX : a1 = 120) (ha : 97 ≤ a2 ∧ a2 ≤ 104) (hb : 49 ≤ a3 ∧ a3 ≤ 56) : PRSok [a0, a1, a2, a3] ∧ prK [a0, a1, a2, a3] = kO a0 ∧ prF [a0, a1, a2, a3] = -1 ∧ prR [a0, a1, a2, a3] = -1 ∧ prX [a0, a1, a2, a3] = 1 ∧ prT [a0, a1, a2, a3] = a2 - 97 + 8 * (a3 - 49) ∧ prB [a0, a1, a2, a3] = 0 := by
  have w0 : wA [a0, a1, a2, a3] 0 = a0 := rfl
  have w1 : wA [a0, a1, a2, a3] 1 = a1 := rfl
  have w2 : wA [a0, a1, a2, a3] 2 = a2 := rfl
  have w3 : wA [a0, a1, a2, a3] 3 = a3 := rfl
  have ln : (([a0, a1, a2, a3] : List Int).length : Int) = 4 := rfl
  have eK : prK [a0, a1, a2, a3] = kO a0 := by unfold prK; rw [w0, if_pos hK]
  have eS : prS [a0, a1, a2, a3] = 1 := by unfold prS; rw [w0, if_pos hK]
  have m2 : wA [a0, a1, a2, a3] ((([a0, a1, a2, a3] : List Int).length : Int) - 2) = a2 := rfl
  have m1 : wA [a0, a1, a2, a3] ((([a0, a1, a2, a3] : List Int).length : Int) - 1) = a3 := rfl
  have nE : ¬ (prK [a0, a1, a2, a3] = 1 ∧ wA [a0, a1, a2, a3] ((([a0, a1, a2, a3] : List Int).length : Int) - 2) = 61) := by rw [m2, eK]; omega
  have eB : prB [a0, a1, a2, a3] = 0 := if_neg nE
  have eN : prN [a0, a1, a2, a3] = 4 := if_neg nE
  have eT : prT [a0, a1, a2, a3] = a2 - 97 + 8 * (a3 - 49) := by
    unfold prT
    rw [eN, show wA [a0, a1, a2, a3] (4 - 2) = a2 from rfl, show wA [a0, a1, a2, a3] (4 - 1) = a3 from rfl]
    unfold sqO
    rw [if_pos (by omega)]
  have eX : prX [a0, a1, a2, a3] = 1 := by
    unfold prX
    rw [eN, eS, show wA [a0, a1, a2, a3] (4 - 2 - 1) = a1 from rfl, if_pos ⟨by decide, hX⟩]
  have eZ : prZ [a0, a1, a2, a3] = 1 := by unfold prZ; rw [eN, eX]; rfl
  have eF : prF [a0, a1, a2, a3] = -1 := by
    unfold prF paF
    rw [eS, eZ]
    rw [if_neg (fun h => absurd h.1 (by decide))]
  have eI : prI [a0, a1, a2, a3] = 1 := by
    unfold prI paI
    rw [eS, eZ]
    rw [if_neg (fun h => absurd h.1 (by decide))]
  have eR2 : prR [a0, a1, a2, a3] = -1 := by
    unfold prR paR
    rw [eI, eZ, eK]
    rw [if_neg (fun h => absurd h.1 (by decide))]
  have eJ2 : prJ [a0, a1, a2, a3] = 1 := by
    unfold prJ paJ
    rw [eI, eZ, eK]
    rw [if_neg (fun h => absurd h.1 (by decide))]
  refine ⟨⟨fun h => absurd h nE, by rw [eT]; omega, by rw [eJ2, eZ]⟩, eK, eF, eR2, eX, eT, eB⟩
theorem of_10100 {a0 a1 a2 a3 : Int} (hK : 2 ≤ kO a0) (hR : 49 ≤ a1 ∧ a1 ≤ 56) (ha : 97 ≤ a2 ∧ a2 ≤ 104) (hb : 49 ≤ a3 ∧ a3 ≤ 56) : PRSok [a0, a1, a2, a3] ∧ prK [a0, a1, a2, a3] = kO a0 ∧ prF [a0, a1, a2, a3] = -1 ∧ prR [a0, a1, a2, a3] = a1 - 49 ∧ prX [a0, a1, a2, a3] = 0 ∧ prT [a0, a1, a2, a3] = a2 - 97 + 8 * (a3 - 49) ∧ prB [a0, a1, a2, a3] = 0 := by
  have w0 : wA [a0, a1, a2, a3] 0 = a0 := rfl
  have w1 : wA [a0, a1, a2, a3] 1 = a1 := rfl
  have w2 : wA [a0, a1, a2, a3] 2 = a2 := rfl
  have w3 : wA [a0, a1, a2, a3] 3 = a3 := rfl
  have ln : (([a0, a1, a2, a3] : List Int).length : Int) = 4 := rfl
  have eK : prK [a0, a1, a2, a3] = kO a0 := by unfold prK; rw [w0, if_pos hK]
  have eS : prS [a0, a1, a2, a3] = 1 := by unfold prS; rw [w0, if_pos hK]
  have m2 : wA [a0, a1, a2, a3] ((([a0, a1, a2, a3] : List Int).length : Int) - 2) = a2 := rfl
  have m1 : wA [a0, a1, a2, a3] ((([a0, a1, a2, a3] : List Int).length : Int) - 1) = a3 := rfl
  have nE : ¬ (prK [a0, a1, a2, a3] = 1 ∧ wA [a0, a1, a2, a3] ((([a0, a1, a2, a3] : List Int).length : Int) - 2) = 61) := by rw [m2, eK]; omega
  have eB : prB [a0, a1, a2, a3] = 0 := if_neg nE
  have eN : prN [a0, a1, a2, a3] = 4 := if_neg nE
  have eT : prT [a0, a1, a2, a3] = a2 - 97 + 8 * (a3 - 49) := by
    unfold prT
    rw [eN, show wA [a0, a1, a2, a3] (4 - 2) = a2 from rfl, show wA [a0, a1, a2, a3] (4 - 1) = a3 from rfl]
    unfold sqO
    rw [if_pos (by omega)]
  have eX : prX [a0, a1, a2, a3] = 0 := by
    unfold prX
    rw [eN, eS, show wA [a0, a1, a2, a3] (4 - 2 - 1) = a1 from rfl, if_neg (fun h => by have := h.2; omega)]
  have eZ : prZ [a0, a1, a2, a3] = 2 := by unfold prZ; rw [eN, eX]; rfl
  have eF : prF [a0, a1, a2, a3] = -1 := by
    unfold prF paF
    rw [eS, eZ]
    rw [show wA [a0, a1, a2, a3] 1 = a1 from rfl, if_neg (fun h => by have := h.2; omega)]
  have eI : prI [a0, a1, a2, a3] = 1 := by
    unfold prI paI
    rw [eS, eZ]
    rw [show wA [a0, a1, a2, a3] 1 = a1 from rfl, if_neg (fun h => by have := h.2; omega)]
  have eR2 : prR [a0, a1, a2, a3] = a1 - 49 := by
    unfold prR paR
    rw [eI, eZ, eK]
    rw [show wA [a0, a1, a2, a3] 1 = a1 from rfl, if_pos ⟨by decide, by omega, hR⟩]
  have eJ2 : prJ [a0, a1, a2, a3] = 2 := by
    unfold prJ paJ
    rw [eI, eZ, eK]
    rw [show wA [a0, a1, a2, a3] 1 = a1 from rfl, if_pos ⟨by decide, by omega, hR⟩]; rfl
  refine ⟨⟨fun h => absurd h nE, by rw [eT]; omega, by rw [eJ2, eZ]⟩, eK, eF, eR2, eX, eT, eB⟩
theorem of_10110 {a0 a1 a2 a3 a4 : Int} (hK : 2 ≤ kO a0) (hR : 49 ≤ a1 ∧ a1 ≤ 56) (hX : a2 = 120) (ha : 97 ≤ a3 ∧ a3 ≤ 104) (hb : 49 ≤ a4 ∧ a4 ≤ 56) : PRSok [a0, a1, a2, a3, a4] ∧ prK [a0, a1, a2, a3, a4] = kO a0 ∧ prF [a0, a1, a2, a3, a4] = -1 ∧ prR [a0, a1, a2, a3, a4] = a1 - 49 ∧ prX [a0, a1, a2, a3, a4] = 1 ∧ prT [a0, a1, a2, a3, a4] = a3 - 97 + 8 * (a4 - 49) ∧ prB [a0, a1, a2, a3, a4] = 0 := by
  have w0 : wA [a0, a1, a2, a3, a4] 0 = a0 := rfl
  have w1 : wA [a0, a1, a2, a3, a4] 1 = a1 := rfl
  have w2 : wA [a0, a1, a2, a3, a4] 2 = a2 := rfl
  have w3 : wA [a0, a1, a2, a3, a4] 3 = a3 := rfl
  have w4 : wA [a0, a1, a2, a3, a4] 4 = a4 := rfl
  have ln : (([a0, a1, a2, a3, a4] : List Int).length : Int) = 5 := rfl
  have eK : prK [a0, a1, a2, a3, a4] = kO a0 := by unfold prK; rw [w0, if_pos hK]
  have eS : prS [a0, a1, a2, a3, a4] = 1 := by unfold prS; rw [w0, if_pos hK]
  have m2 : wA [a0, a1, a2, a3, a4] ((([a0, a1, a2, a3, a4] : List Int).length : Int) - 2) = a3 := rfl
  have m1 : wA [a0, a1, a2, a3, a4] ((([a0, a1, a2, a3, a4] : List Int).length : Int) - 1) = a4 := rfl
  have nE : ¬ (prK [a0, a1, a2, a3, a4] = 1 ∧ wA [a0, a1, a2, a3, a4] ((([a0, a1, a2, a3, a4] : List Int).length : Int) - 2) = 61) := by rw [m2, eK]; omega
  have eB : prB [a0, a1, a2, a3, a4] = 0 := if_neg nE
  have eN : prN [a0, a1, a2, a3, a4] = 5 := if_neg nE
  have eT : prT [a0, a1, a2, a3, a4] = a3 - 97 + 8 * (a4 - 49) := by
    unfold prT
    rw [eN, show wA [a0, a1, a2, a3, a4] (5 - 2) = a3 from rfl, show wA [a0, a1, a2, a3, a4] (5 - 1) = a4 from rfl]
    unfold sqO
    rw [if_pos (by omega)]
  have eX : prX [a0, a1, a2, a3, a4] = 1 := by
    unfold prX
    rw [eN, eS, show wA [a0, a1, a2, a3, a4] (5 - 2 - 1) = a2 from rfl, if_pos ⟨by decide, hX⟩]
  have eZ : prZ [a0, a1, a2, a3, a4] = 2 := by unfold prZ; rw [eN, eX]; rfl
  have eF : prF [a0, a1, a2, a3, a4] = -1 := by
    unfold prF paF
    rw [eS, eZ]
    rw [show wA [a0, a1, a2, a3, a4] 1 = a1 from rfl, if_neg (fun h => by have := h.2; omega)]
  have eI : prI [a0, a1, a2, a3, a4] = 1 := by
    unfold prI paI
    rw [eS, eZ]
    rw [show wA [a0, a1, a2, a3, a4] 1 = a1 from rfl, if_neg (fun h => by have := h.2; omega)]
  have eR2 : prR [a0, a1, a2, a3, a4] = a1 - 49 := by
    unfold prR paR
    rw [eI, eZ, eK]
    rw [show wA [a0, a1, a2, a3, a4] 1 = a1 from rfl, if_pos ⟨by decide, by omega, hR⟩]
  have eJ2 : prJ [a0, a1, a2, a3, a4] = 2 := by
    unfold prJ paJ
    rw [eI, eZ, eK]
    rw [show wA [a0, a1, a2, a3, a4] 1 = a1 from rfl, if_pos ⟨by decide, by omega, hR⟩]; rfl
  refine ⟨⟨fun h => absurd h nE, by rw [eT]; omega, by rw [eJ2, eZ]⟩, eK, eF, eR2, eX, eT, eB⟩
theorem of_11000 {a0 a1 a2 a3 : Int} (hK : 2 ≤ kO a0) (hF : 97 ≤ a1 ∧ a1 ≤ 104) (ha : 97 ≤ a2 ∧ a2 ≤ 104) (hb : 49 ≤ a3 ∧ a3 ≤ 56) : PRSok [a0, a1, a2, a3] ∧ prK [a0, a1, a2, a3] = kO a0 ∧ prF [a0, a1, a2, a3] = a1 - 97 ∧ prR [a0, a1, a2, a3] = -1 ∧ prX [a0, a1, a2, a3] = 0 ∧ prT [a0, a1, a2, a3] = a2 - 97 + 8 * (a3 - 49) ∧ prB [a0, a1, a2, a3] = 0 := by
  have w0 : wA [a0, a1, a2, a3] 0 = a0 := rfl
  have w1 : wA [a0, a1, a2, a3] 1 = a1 := rfl
  have w2 : wA [a0, a1, a2, a3] 2 = a2 := rfl
  have w3 : wA [a0, a1, a2, a3] 3 = a3 := rfl
  have ln : (([a0, a1, a2, a3] : List Int).length : Int) = 4 := rfl
  have eK : prK [a0, a1, a2, a3] = kO a0 := by unfold prK; rw [w0, if_pos hK]
  have eS : prS [a0, a1, a2, a3] = 1 := by unfold prS; rw [w0, if_pos hK]
  have m2 : wA [a0, a1, a2, a3] ((([a0, a1, a2, a3] : List Int).length : Int) - 2) = a2 := rfl
  have m1 : wA [a0, a1, a2, a3] ((([a0, a1, a2, a3] : List Int).length : Int) - 1) = a3 := rfl
  have nE : ¬ (prK [a0, a1, a2, a3] = 1 ∧ wA [a0, a1, a2, a3] ((([a0, a1, a2, a3] : List Int).length : Int) - 2) = 61) := by rw [m2, eK]; omega
  have eB : prB [a0, a1, a2, a3] = 0 := if_neg nE
  have eN : prN [a0, a1, a2, a3] = 4 := if_neg nE
  have eT : prT [a0, a1, a2, a3] = a2 - 97 + 8 * (a3 - 49) := by
    unfold prT
    rw [eN, show wA [a0, a1, a2, a3] (4 - 2) = a2 from rfl, show wA [a0, a1, a2, a3] (4 - 1) = a3 from rfl]
    unfold sqO
    rw [if_pos (by omega)]
  have eX : prX [a0, a1, a2, a3] = 0 := by
    unfold prX
    rw [eN, eS, show wA [a0, a1, a2, a3] (4 - 2 - 1) = a1 from rfl, if_neg (fun h => by have := h.2; omega)]
  have eZ : prZ [a0, a1, a2, a3] = 2 := by unfold prZ; rw [eN, eX]; rfl
  have eF : prF [a0, a1, a2, a3] = a1 - 97 := by
    unfold prF paF
    rw [eS, eZ]
    rw [show wA [a0, a1, a2, a3] 1 = a1 from rfl, if_pos ⟨by decide, hF⟩]
  have eI : prI [a0, a1, a2, a3] = 2 := by
    unfold prI paI
    rw [eS, eZ]
    rw [show wA [a0, a1, a2, a3] 1 = a1 from rfl, if_pos ⟨by decide, hF⟩]; rfl
  have eR2 : prR [a0, a1, a2, a3] = -1 := by
    unfold prR paR
    rw [eI, eZ, eK]
    rw [if_neg (fun h => absurd h.1 (by decide))]
  have eJ2 : prJ [a0, a1, a2, a3] = 2 := by
    unfold prJ paJ
    rw [eI, eZ, eK]
    rw [if_neg (fun h => absurd h.1 (by decide))]
  refine ⟨⟨fun h => absurd h nE, by rw [eT]; omega, by rw [eJ2, eZ]⟩, eK, eF, eR2, eX, eT, eB⟩
theorem of_11010 {a0 a1 a2 a3 a4 : Int} (hK : 2 ≤ kO a0) (hF : 97 ≤ a1 ∧ a1 ≤ 104) (hX : a2 = 120) (ha : 97 ≤ a3 ∧ a3 ≤ 104) (hb : 49 ≤ a4 ∧ a4 ≤ 56) : PRSok [a0, a1, a2, a3, a4] ∧ prK [a0, a1, a2, a3, a4] = kO a0 ∧ prF [a0, a1, a2, a3, a4] = a1 - 97 ∧ prR [a0, a1, a2, a3, a4] = -1 ∧ prX [a0, a1, a2, a3, a4] = 1 ∧ prT [a0, a1, a2, a3, a4] = a3 - 97 + 8 * (a4 - 49) ∧ prB [a0, a1, a2, a3, a4] = 0 := by
  have w0 : wA [a0, a1, a2, a3, a4] 0 = a0 := rfl
  have w1 : wA [a0, a1, a2, a3, a4] 1 = a1 := rfl
  have w2 : wA [a0, a1, a2, a3, a4] 2 = a2 := rfl
  have w3 : wA [a0, a1, a2, a3, a4] 3 = a3 := rfl
  have w4 : wA [a0, a1, a2, a3, a4] 4 = a4 := rfl
  have ln : (([a0, a1, a2, a3, a4] : List Int).length : Int) = 5 := rfl
  have eK : prK [a0, a1, a2, a3, a4] = kO a0 := by unfold prK; rw [w0, if_pos hK]
  have eS : prS [a0, a1, a2, a3, a4] = 1 := by unfold prS; rw [w0, if_pos hK]
  have m2 : wA [a0, a1, a2, a3, a4] ((([a0, a1, a2, a3, a4] : List Int).length : Int) - 2) = a3 := rfl
  have m1 : wA [a0, a1, a2, a3, a4] ((([a0, a1, a2, a3, a4] : List Int).length : Int) - 1) = a4 := rfl
  have nE : ¬ (prK [a0, a1, a2, a3, a4] = 1 ∧ wA [a0, a1, a2, a3, a4] ((([a0, a1, a2, a3, a4] : List Int).length : Int) - 2) = 61) := by rw [m2, eK]; omega
  have eB : prB [a0, a1, a2, a3, a4] = 0 := if_neg nE
  have eN : prN [a0, a1, a2, a3, a4] = 5 := if_neg nE
  have eT : prT [a0, a1, a2, a3, a4] = a3 - 97 + 8 * (a4 - 49) := by
    unfold prT
    rw [eN, show wA [a0, a1, a2, a3, a4] (5 - 2) = a3 from rfl, show wA [a0, a1, a2, a3, a4] (5 - 1) = a4 from rfl]
    unfold sqO
    rw [if_pos (by omega)]
  have eX : prX [a0, a1, a2, a3, a4] = 1 := by
    unfold prX
    rw [eN, eS, show wA [a0, a1, a2, a3, a4] (5 - 2 - 1) = a2 from rfl, if_pos ⟨by decide, hX⟩]
  have eZ : prZ [a0, a1, a2, a3, a4] = 2 := by unfold prZ; rw [eN, eX]; rfl
  have eF : prF [a0, a1, a2, a3, a4] = a1 - 97 := by
    unfold prF paF
    rw [eS, eZ]
    rw [show wA [a0, a1, a2, a3, a4] 1 = a1 from rfl, if_pos ⟨by decide, hF⟩]
  have eI : prI [a0, a1, a2, a3, a4] = 2 := by
    unfold prI paI
    rw [eS, eZ]
    rw [show wA [a0, a1, a2, a3, a4] 1 = a1 from rfl, if_pos ⟨by decide, hF⟩]; rfl
  have eR2 : prR [a0, a1, a2, a3, a4] = -1 := by
    unfold prR paR
    rw [eI, eZ, eK]
    rw [if_neg (fun h => absurd h.1 (by decide))]
  have eJ2 : prJ [a0, a1, a2, a3, a4] = 2 := by
    unfold prJ paJ
    rw [eI, eZ, eK]
    rw [if_neg (fun h => absurd h.1 (by decide))]
  refine ⟨⟨fun h => absurd h nE, by rw [eT]; omega, by rw [eJ2, eZ]⟩, eK, eF, eR2, eX, eT, eB⟩
theorem of_11100 {a0 a1 a2 a3 a4 : Int} (hK : 2 ≤ kO a0) (hF : 97 ≤ a1 ∧ a1 ≤ 104) (hR : 49 ≤ a2 ∧ a2 ≤ 56) (ha : 97 ≤ a3 ∧ a3 ≤ 104) (hb : 49 ≤ a4 ∧ a4 ≤ 56) : PRSok [a0, a1, a2, a3, a4] ∧ prK [a0, a1, a2, a3, a4] = kO a0 ∧ prF [a0, a1, a2, a3, a4] = a1 - 97 ∧ prR [a0, a1, a2, a3, a4] = a2 - 49 ∧ prX [a0, a1, a2, a3, a4] = 0 ∧ prT [a0, a1, a2, a3, a4] = a3 - 97 + 8 * (a4 - 49) ∧ prB [a0, a1, a2, a3, a4] = 0 := by
  have w0 : wA [a0, a1, a2, a3, a4] 0 = a0 := rfl
  have w1 : wA [a0, a1, a2, a3, a4] 1 = a1 := rfl
  have w2 : wA [a0, a1, a2, a3, a4] 2 = a2 := rfl
  have w3 : wA [a0, a1, a2, a3, a4] 3 = a3 := rfl
  have w4 : wA [a0, a1, a2, a3, a4] 4 = a4 := rfl
  have ln : (([a0, a1, a2, a3, a4] : List Int).length : Int) = 5 := rfl
  have eK : prK [a0, a1, a2, a3, a4] = kO a0 := by unfold prK; rw [w0, if_pos hK]
  have eS : prS [a0, a1, a2, a3, a4] = 1 := by unfold prS; rw [w0, if_pos hK]
  have m2 : wA [a0, a1, a2, a3, a4] ((([a0, a1, a2, a3, a4] : List Int).length : Int) - 2) = a3 := rfl
  have m1 : wA [a0, a1, a2, a3, a4] ((([a0, a1, a2, a3, a4] : List Int).length : Int) - 1) = a4 := rfl
  have nE : ¬ (prK [a0, a1, a2, a3, a4] = 1 ∧ wA [a0, a1, a2, a3, a4] ((([a0, a1, a2, a3, a4] : List Int).length : Int) - 2) = 61) := by rw [m2, eK]; omega
  have eB : prB [a0, a1, a2, a3, a4] = 0 := if_neg nE
  have eN : prN [a0, a1, a2, a3, a4] = 5 := if_neg nE
  have eT : prT [a0, a1, a2, a3, a4] = a3 - 97 + 8 * (a4 - 49) := by
    unfold prT
    rw [eN, show wA [a0, a1, a2, a3, a4] (5 - 2) = a3 from rfl, show wA [a0, a1, a2, a3, a4] (5 - 1) = a4 from rfl]
    unfold sqO
    rw [if_pos (by omega)]
  have eX : prX [a0, a1, a2, a3, a4] = 0 := by
    unfold prX
    rw [eN, eS, show wA [a0, a1, a2, a3, a4] (5 - 2 - 1) = a2 from rfl, if_neg (fun h => by have := h.2; omega)]
  have eZ : prZ [a0, a1, a2, a3, a4] = 3 := by unfold prZ; rw [eN, eX]; rfl
  have eF : prF [a0, a1, a2, a3, a4] = a1 - 97 := by
    unfold prF paF
    rw [eS, eZ]
    rw [show wA [a0, a1, a2, a3, a4] 1 = a1 from rfl, if_pos ⟨by decide, hF⟩]
  have eI : prI [a0, a1, a2, a3, a4] = 2 := by
    unfold prI paI
    rw [eS, eZ]
    rw [show wA [a0, a1, a2, a3, a4] 1 = a1 from rfl, if_pos ⟨by decide, hF⟩]; rfl
  have eR2 : prR [a0, a1, a2, a3, a4] = a2 - 49 := by
    unfold prR paR
    rw [eI, eZ, eK]
    rw [show wA [a0, a1, a2, a3, a4] 2 = a2 from rfl, if_pos ⟨by decide, by omega, hR⟩]
  have eJ2 : prJ [a0, a1, a2, a3, a4] = 3 := by
    unfold prJ paJ
    rw [eI, eZ, eK]
    rw [show wA [a0, a1, a2, a3, a4] 2 = a2 from rfl, if_pos ⟨by decide, by omega, hR⟩]; rfl
  refine ⟨⟨fun h => absurd h nE, by rw [eT]; omega, by rw [eJ2, eZ]⟩, eK, eF, eR2, eX, eT, eB⟩
theorem of_11110 {a0 a1 a2 a3 a4 a5 : Int} (hK : 2 ≤ kO a0) (hF : 97 ≤ a1 ∧ a1 ≤ 104) (hR : 49 ≤ a2 ∧ a2 ≤ 56) (hX : a3 = 120) (ha : 97 ≤ a4 ∧ a4 ≤ 104) (hb : 49 ≤ a5 ∧ a5 ≤ 56) : PRSok [a0, a1, a2, a3, a4, a5] ∧ prK [a0, a1, a2, a3, a4, a5] = kO a0 ∧ prF [a0, a1, a2, a3, a4, a5] = a1 - 97 ∧ prR [a0, a1, a2, a3, a4, a5] = a2 - 49 ∧ prX [a0, a1, a2, a3, a4, a5] = 1 ∧ prT [a0, a1, a2, a3, a4, a5] = a4 - 97 + 8 * (a5 - 49) ∧ prB [a0, a1, a2, a3, a4, a5] = 0 := by
  have w0 : wA [a0, a1, a2, a3, a4, a5] 0 = a0 := rfl
  have w1 : wA [a0, a1, a2, a3, a4, a5] 1 = a1 := rfl
  have w2 : wA [a0, a1, a2, a3, a4, a5] 2 = a2 := rfl
  have w3 : wA [a0, a1, a2, a3, a4, a5] 3 = a3 := rfl
  have w4 : wA [a0, a1, a2, a3, a4, a5] 4 = a4 := rfl
  have w5 : wA [a0, a1, a2, a3, a4, a5] 5 = a5 := rfl
  have ln : (([a0, a1, a2, a3, a4, a5] : List Int).length : Int) = 6 := rfl
  have eK : prK [a0, a1, a2, a3, a4, a5] = kO a0 := by unfold prK; rw [w0, if_pos hK]
  have eS : prS [a0, a1, a2, a3, a4, a5] = 1 := by unfold prS; rw [w0, if_pos hK]
  have m2 : wA [a0, a1, a2, a3, a4, a5] ((([a0, a1, a2, a3, a4, a5] : List Int).length : Int) - 2) = a4 := rfl
  have m1 : wA [a0, a1, a2, a3, a4, a5] ((([a0, a1, a2, a3, a4, a5] : List Int).length : Int) - 1) = a5 := rfl
  have nE : ¬ (prK [a0, a1, a2, a3, a4, a5] = 1 ∧ wA [a0, a1, a2, a3, a4, a5] ((([a0, a1, a2, a3, a4, a5] : List Int).length : Int) - 2) = 61) := by rw [m2, eK]; omega
  have eB : prB [a0, a1, a2, a3, a4, a5] = 0 := if_neg nE
  have eN : prN [a0, a1, a2, a3, a4, a5] = 6 := if_neg nE
  have eT : prT [a0, a1, a2, a3, a4, a5] = a4 - 97 + 8 * (a5 - 49) := by
    unfold prT
    rw [eN, show wA [a0, a1, a2, a3, a4, a5] (6 - 2) = a4 from rfl, show wA [a0, a1, a2, a3, a4, a5] (6 - 1) = a5 from rfl]
    unfold sqO
    rw [if_pos (by omega)]
  have eX : prX [a0, a1, a2, a3, a4, a5] = 1 := by
    unfold prX
    rw [eN, eS, show wA [a0, a1, a2, a3, a4, a5] (6 - 2 - 1) = a3 from rfl, if_pos ⟨by decide, hX⟩]
  have eZ : prZ [a0, a1, a2, a3, a4, a5] = 3 := by unfold prZ; rw [eN, eX]; rfl
  have eF : prF [a0, a1, a2, a3, a4, a5] = a1 - 97 := by
    unfold prF paF
    rw [eS, eZ]
    rw [show wA [a0, a1, a2, a3, a4, a5] 1 = a1 from rfl, if_pos ⟨by decide, hF⟩]
  have eI : prI [a0, a1, a2, a3, a4, a5] = 2 := by
    unfold prI paI
    rw [eS, eZ]
    rw [show wA [a0, a1, a2, a3, a4, a5] 1 = a1 from rfl, if_pos ⟨by decide, hF⟩]; rfl
  have eR2 : prR [a0, a1, a2, a3, a4, a5] = a2 - 49 := by
    unfold prR paR
    rw [eI, eZ, eK]
    rw [show wA [a0, a1, a2, a3, a4, a5] 2 = a2 from rfl, if_pos ⟨by decide, by omega, hR⟩]
  have eJ2 : prJ [a0, a1, a2, a3, a4, a5] = 3 := by
    unfold prJ paJ
    rw [eI, eZ, eK]
    rw [show wA [a0, a1, a2, a3, a4, a5] 2 = a2 from rfl, if_pos ⟨by decide, by omega, hR⟩]; rfl
  refine ⟨⟨fun h => absurd h nE, by rw [eT]; omega, by rw [eJ2, eZ]⟩, eK, eF, eR2, eX, eT, eB⟩
theorem pr_of {kd fl rk tk to bc : Int} (h : vld kd fl rk tk to bc) : PRSok (rend kd fl rk tk to bc) ∧ prK (rend kd fl rk tk to bc) = kd ∧ prF (rend kd fl rk tk to bc) = fl ∧ prR (rend kd fl rk tk to bc) = rk ∧ prX (rend kd fl rk tk to bc) = tk ∧ prT (rend kd fl rk tk to bc) = to ∧ prB (rend kd fl rk tk to bc) = bc := by
  obtain ⟨h1, h2, h3, h4, h5, h6, h7⟩ := h
  have e6 := sqO_to h6
  by_cases cK : 2 ≤ kd
  ·
    by_cases cF : 0 ≤ fl
    ·
      by_cases cR : 0 ≤ rk
      ·
        by_cases cX : tk = 1
        ·
          by_cases cE : 2 ≤ bc
          ·
            omega
          ·
            have e : rend kd fl rk tk to bc = [ltK kd, 97 + fl, 49 + rk, 120, 97 + to % 8, 49 + to / 8] := by
              unfold rend
              rw [if_pos cK, if_pos cF, if_pos cR, if_pos cX, if_neg cE]
              rfl
            obtain ⟨g1, g2, g3, g4, g5, g6, g7⟩ := of_11110 (a0 := ltK kd) (a1 := 97 + fl) (a2 := 49 + rk) (a3 := 120) (a4 := 97 + to % 8) (a5 := 49 + to / 8) (by rw [kO_lt (by omega)]; exact cK) (by omega) (by omega) rfl (by omega) (by omega)
            rw [← e] at g1 g2 g3 g4 g5 g6 g7
            rw [kO_lt (by omega)] at g2
            exact ⟨g1, by omega, by omega, by omega, by omega, by omega, by omega⟩
        ·
          by_cases cE : 2 ≤ bc
          ·
            omega
          ·
            have e : rend kd fl rk tk to bc = [ltK kd, 97 + fl, 49 + rk, 97 + to % 8, 49 + to / 8] := by
              unfold rend
              rw [if_pos cK, if_pos cF, if_pos cR, if_neg cX, if_neg cE]
              rfl
            obtain ⟨g1, g2, g3, g4, g5, g6, g7⟩ := of_11100 (a0 := ltK kd) (a1 := 97 + fl) (a2 := 49 + rk) (a3 := 97 + to % 8) (a4 := 49 + to / 8) (by rw [kO_lt (by omega)]; exact cK) (by omega) (by omega) (by omega) (by omega)
            rw [← e] at g1 g2 g3 g4 g5 g6 g7
            rw [kO_lt (by omega)] at g2
            exact ⟨g1, by omega, by omega, by omega, by omega, by omega, by omega⟩
      ·
        by_cases cX : tk = 1
        ·
          by_cases cE : 2 ≤ bc
          ·
            omega
          ·
            have e : rend kd fl rk tk to bc = [ltK kd, 97 + fl, 120, 97 + to % 8, 49 + to / 8] := by
              unfold rend
              rw [if_pos cK, if_pos cF, if_neg cR, if_pos cX, if_neg cE]
              rfl
            obtain ⟨g1, g2, g3, g4, g5, g6, g7⟩ := of_11010 (a0 := ltK kd) (a1 := 97 + fl) (a2 := 120) (a3 := 97 + to % 8) (a4 := 49 + to / 8) (by rw [kO_lt (by omega)]; exact cK) (by omega) rfl (by omega) (by omega)
            rw [← e] at g1 g2 g3 g4 g5 g6 g7
            rw [kO_lt (by omega)] at g2
            exact ⟨g1, by omega, by omega, by omega, by omega, by omega, by omega⟩
        ·
          by_cases cE : 2 ≤ bc
          ·
            omega
          ·
            have e : rend kd fl rk tk to bc = [ltK kd, 97 + fl, 97 + to % 8, 49 + to / 8] := by
              unfold rend
              rw [if_pos cK, if_pos cF, if_neg cR, if_neg cX, if_neg cE]
              rfl
            obtain ⟨g1, g2, g3, g4, g5, g6, g7⟩ := of_11000 (a0 := ltK kd) (a1 := 97 + fl) (a2 := 97 + to % 8) (a3 := 49 + to / 8) (by rw [kO_lt (by omega)]; exact cK) (by omega) (by omega) (by omega)
            rw [← e] at g1 g2 g3 g4 g5 g6 g7
            rw [kO_lt (by omega)] at g2
            exact ⟨g1, by omega, by omega, by omega, by omega, by omega, by omega⟩
    ·
      by_cases cR : 0 ≤ rk
      ·
        by_cases cX : tk = 1
        ·
          by_cases cE : 2 ≤ bc
          ·
            omega
          ·
            have e : rend kd fl rk tk to bc = [ltK kd, 49 + rk, 120, 97 + to % 8, 49 + to / 8] := by
              unfold rend
              rw [if_pos cK, if_neg cF, if_pos cR, if_pos cX, if_neg cE]
              rfl
            obtain ⟨g1, g2, g3, g4, g5, g6, g7⟩ := of_10110 (a0 := ltK kd) (a1 := 49 + rk) (a2 := 120) (a3 := 97 + to % 8) (a4 := 49 + to / 8) (by rw [kO_lt (by omega)]; exact cK) (by omega) rfl (by omega) (by omega)
            rw [← e] at g1 g2 g3 g4 g5 g6 g7
            rw [kO_lt (by omega)] at g2
            exact ⟨g1, by omega, by omega, by omega, by omega, by omega, by omega⟩
        ·
          by_cases cE : 2 ≤ bc
          ·
            omega
          ·
            have e : rend kd fl rk tk to bc = [ltK kd, 49 + rk, 97 + to % 8, 49 + to / 8] := by
              unfold rend
              rw [if_pos cK, if_neg cF, if_pos cR, if_neg cX, if_neg cE]
              rfl
            obtain ⟨g1, g2, g3, g4, g5, g6, g7⟩ := of_10100 (a0 := ltK kd) (a1 := 49 + rk) (a2 := 97 + to % 8) (a3 := 49 + to / 8) (by rw [kO_lt (by omega)]; exact cK) (by omega) (by omega) (by omega)
            rw [← e] at g1 g2 g3 g4 g5 g6 g7
            rw [kO_lt (by omega)] at g2
            exact ⟨g1, by omega, by omega, by omega, by omega, by omega, by omega⟩
      ·
        by_cases cX : tk = 1
        ·
          by_cases cE : 2 ≤ bc
          ·
            omega
          ·
            have e : rend kd fl rk tk to bc = [ltK kd, 120, 97 + to % 8, 49 + to / 8] := by
              unfold rend
              rw [if_pos cK, if_neg cF, if_neg cR, if_pos cX, if_neg cE]
              rfl
            obtain ⟨g1, g2, g3, g4, g5, g6, g7⟩ := of_10010 (a0 := ltK kd) (a1 := 120) (a2 := 97 + to % 8) (a3 := 49 + to / 8) (by rw [kO_lt (by omega)]; exact cK) rfl (by omega) (by omega)
            rw [← e] at g1 g2 g3 g4 g5 g6 g7
            rw [kO_lt (by omega)] at g2
            exact ⟨g1, by omega, by omega, by omega, by omega, by omega, by omega⟩
        ·
          by_cases cE : 2 ≤ bc
          ·
            omega
          ·
            have e : rend kd fl rk tk to bc = [ltK kd, 97 + to % 8, 49 + to / 8] := by
              unfold rend
              rw [if_pos cK, if_neg cF, if_neg cR, if_neg cX, if_neg cE]
              rfl
            obtain ⟨g1, g2, g3, g4, g5, g6, g7⟩ := of_10000 (a0 := ltK kd) (a1 := 97 + to % 8) (a2 := 49 + to / 8) (by rw [kO_lt (by omega)]; exact cK) (by omega) (by omega)
            rw [← e] at g1 g2 g3 g4 g5 g6 g7
            rw [kO_lt (by omega)] at g2
            exact ⟨g1, by omega, by omega, by omega, by omega, by omega, by omega⟩
  ·
    by_cases cF : 0 ≤ fl
    ·
      by_cases cR : 0 ≤ rk
      ·
        omega
      ·
        by_cases cX : tk = 1
        ·
          by_cases cE : 2 ≤ bc
          ·
            have e : rend kd fl rk tk to bc = [97 + fl, 120, 97 + to % 8, 49 + to / 8, 61, ltK bc] := by
              unfold rend
              rw [if_neg cK, if_pos cF, if_neg cR, if_pos cX, if_pos cE]
              rfl
            obtain ⟨g1, g2, g3, g4, g5, g6, g7⟩ := of_01011 (a0 := 97 + fl) (a1 := 120) (a2 := 97 + to % 8) (a3 := 49 + to / 8) (a4 := 61) (a5 := ltK bc) (by rw [kO_big (by omega)]; decide) (by omega) rfl (by omega) (by omega) rfl (by rw [kO_lt (by omega)]; omega)
            rw [← e] at g1 g2 g3 g4 g5 g6 g7
            rw [kO_lt (by omega)] at g7
            exact ⟨g1, by omega, by omega, by omega, by omega, by omega, by omega⟩
          ·
            have e : rend kd fl rk tk to bc = [97 + fl, 120, 97 + to % 8, 49 + to / 8] := by
              unfold rend
              rw [if_neg cK, if_pos cF, if_neg cR, if_pos cX, if_neg cE]
              rfl
            obtain ⟨g1, g2, g3, g4, g5, g6, g7⟩ := of_01010 (a0 := 97 + fl) (a1 := 120) (a2 := 97 + to % 8) (a3 := 49 + to / 8) (by rw [kO_big (by omega)]; decide) (by omega) rfl (by omega) (by omega)
            rw [← e] at g1 g2 g3 g4 g5 g6 g7
            exact ⟨g1, by omega, by omega, by omega, by omega, by omega, by omega⟩
        ·
          by_cases cE : 2 ≤ bc
          ·
            have e : rend kd fl rk tk to bc = [97 + fl, 97 + to % 8, 49 + to / 8, 61, ltK bc] := by
              unfold rend
              rw [if_neg cK, if_pos cF, if_neg cR, if_neg cX, if_pos cE]
              rfl
            obtain ⟨g1, g2, g3, g4, g5, g6, g7⟩ := of_01001 (a0 := 97 + fl) (a1 := 97 + to % 8) (a2 := 49 + to / 8) (a3 := 61) (a4 := ltK bc) (by rw [kO_big (by omega)]; decide) (by omega) (by omega) (by omega) rfl (by rw [kO_lt (by omega)]; omega)
            rw [← e] at g1 g2 g3 g4 g5 g6 g7
            rw [kO_lt (by omega)] at g7
            exact ⟨g1, by omega, by omega, by omega, by omega, by omega, by omega⟩
          ·
            have e : rend kd fl rk tk to bc = [97 + fl, 97 + to % 8, 49 + to / 8] := by
              unfold rend
              rw [if_neg cK, if_pos cF, if_neg cR, if_neg cX, if_neg cE]
              rfl
            obtain ⟨g1, g2, g3, g4, g5, g6, g7⟩ := of_01000 (a0 := 97 + fl) (a1 := 97 + to % 8) (a2 := 49 + to / 8) (by rw [kO_big (by omega)]; decide) (by omega) (by omega) (by omega)
            rw [← e] at g1 g2 g3 g4 g5 g6 g7
            exact ⟨g1, by omega, by omega, by omega, by omega, by omega, by omega⟩
    ·
      by_cases cR : 0 ≤ rk
      ·
        omega
      ·
        by_cases cX : tk = 1
        ·
          by_cases cE : 2 ≤ bc
          ·
            have e : rend kd fl rk tk to bc = [120, 97 + to % 8, 49 + to / 8, 61, ltK bc] := by
              unfold rend
              rw [if_neg cK, if_neg cF, if_neg cR, if_pos cX, if_pos cE]
              rfl
            obtain ⟨g1, g2, g3, g4, g5, g6, g7⟩ := of_00011 (a0 := 120) (a1 := 97 + to % 8) (a2 := 49 + to / 8) (a3 := 61) (a4 := ltK bc) (by rw [kO_big (by omega)]; decide) rfl (by omega) (by omega) rfl (by rw [kO_lt (by omega)]; omega)
            rw [← e] at g1 g2 g3 g4 g5 g6 g7
            rw [kO_lt (by omega)] at g7
            exact ⟨g1, by omega, by omega, by omega, by omega, by omega, by omega⟩
          ·
            have e : rend kd fl rk tk to bc = [120, 97 + to % 8, 49 + to / 8] := by
              unfold rend
              rw [if_neg cK, if_neg cF, if_neg cR, if_pos cX, if_neg cE]
              rfl
            obtain ⟨g1, g2, g3, g4, g5, g6, g7⟩ := of_00010 (a0 := 120) (a1 := 97 + to % 8) (a2 := 49 + to / 8) (by rw [kO_big (by omega)]; decide) rfl (by omega) (by omega)
            rw [← e] at g1 g2 g3 g4 g5 g6 g7
            exact ⟨g1, by omega, by omega, by omega, by omega, by omega, by omega⟩
        ·
          by_cases cE : 2 ≤ bc
          ·
            have e : rend kd fl rk tk to bc = [97 + to % 8, 49 + to / 8, 61, ltK bc] := by
              unfold rend
              rw [if_neg cK, if_neg cF, if_neg cR, if_neg cX, if_pos cE]
              rfl
            obtain ⟨g1, g2, g3, g4, g5, g6, g7⟩ := of_00001 (a0 := 97 + to % 8) (a1 := 49 + to / 8) (a2 := 61) (a3 := ltK bc) (by rw [kO_big (by omega)]; decide) (by omega) (by omega) rfl (by rw [kO_lt (by omega)]; omega)
            rw [← e] at g1 g2 g3 g4 g5 g6 g7
            rw [kO_lt (by omega)] at g7
            exact ⟨g1, by omega, by omega, by omega, by omega, by omega, by omega⟩
          ·
            have e : rend kd fl rk tk to bc = [97 + to % 8, 49 + to / 8] := by
              unfold rend
              rw [if_neg cK, if_neg cF, if_neg cR, if_neg cX, if_neg cE]
              rfl
            obtain ⟨g1, g2, g3, g4, g5, g6, g7⟩ := of_00000 (a0 := 97 + to % 8) (a1 := 49 + to / 8) (by rw [kO_big (by omega)]; decide) (by omega) (by omega)
            rw [← e] at g1 g2 g3 g4 g5 g6 g7
            exact ⟨g1, by omega, by omega, by omega, by omega, by omega, by omega⟩
theorem pr_to {w : List Int} (h : PRSok w) : vld (prK w) (prF w) (prR w) (prX w) (prT w) (prB w) ∧ w = rend (prK w) (prF w) (prR w) (prX w) (prT w) (prB w) := by
  obtain ⟨h1, h2, h3⟩ := h
  have hT := sqO_ok h2
  have kb := kO_b (wA w 0)
  have qb := kO_b (wA w ((w.length : Int) - 1))
  by_cases cK : 2 ≤ kO (wA w 0)
  ·
    have eK : prK w = kO (wA w 0) := if_pos cK
    have eS : prS w = 1 := if_pos cK
    by_cases cE : prK w = 1 ∧ wA w ((w.length : Int) - 2) = 61
    ·
      omega
    ·
      have eB : prB w = 0 := if_neg cE
      have eN : prN w = (w.length : Int) := if_neg cE
      by_cases cX : prS w < prN w - 2 ∧ wA w (prN w - 2 - 1) = 120
      ·
        have eX : prX w = 1 := if_pos cX
        by_cases cF : prS w < prZ w ∧ 97 ≤ wA w (prS w) ∧ wA w (prS w) ≤ 104
        ·
          have eF : prF w = wA w (prS w) - 97 := if_pos cF
          have eI : prI w = prS w + 1 := if_pos cF
          by_cases cR : prI w < prZ w ∧ prK w ≠ 1 ∧ 49 ≤ wA w (prI w) ∧ wA w (prI w) ≤ 56
          ·
            have eR : prR w = wA w (prI w) - 49 := if_pos cR
            have eJ : prJ w = prI w + 1 := if_pos cR
            have h39 : prN w - 2 - prX w = prJ w := h3.symm
            have hn : (w.length : Int) = 6 := by unfold prZ at *; omega
            have eN9 : prN w = 6 := by omega
            unfold prT at hT h2 ⊢
            unfold prZ at *
            rw [eN9] at hT h2 ⊢
            obtain ⟨a0, a1, a2, a3, a4, a5, rfl⟩ := len_6 hn
            have ga : wA [a0, a1, a2, a3, a4, a5] (6 - 2) = a4 := rfl
            have gb : wA [a0, a1, a2, a3, a4, a5] (6 - 1) = a5 := rfl
            rw [ga, gb] at hT ⊢
            have g0 : wA [a0, a1, a2, a3, a4, a5] 0 = a0 := rfl
            rw [g0] at cK eK kb
            have cx2 := cX.2
            rw [eN9, show wA [a0, a1, a2, a3, a4, a5] (6 - 2 - 1) = a3 from rfl] at cx2
            have cf2 := cF.2
            rw [eS, show wA [a0, a1, a2, a3, a4, a5] 1 = a1 from rfl] at cf2 eF
            have cr2 := cR.2.2
            rw [eI, eS, show wA [a0, a1, a2, a3, a4, a5] (1 + 1) = a2 from rfl] at cr2 eR
            rw [eK, eF, eR, eX, eB, hT.2.2]
            obtain ⟨⟨t1, t2⟩, ⟨t3, t4⟩, t5⟩ := hT
            refine ⟨⟨by omega, by omega, by omega, by omega, by omega, by omega, by omega⟩, ?_⟩
            unfold rend
            rw [if_pos cK, if_pos (by omega), if_pos (by omega), if_pos rfl, if_neg (by decide)]
            show [a0, a1, a2, a3, a4, a5] = [ltK (kO a0), 97 + (a1 - 97), 49 + (a2 - 49), 120, 97 + (a4 - 97 + 8 * (a5 - 49)) % 8, 49 + (a4 - 97 + 8 * (a5 - 49)) / 8]
            rw [lt_kO cK]
            rw [show 97 + (a1 - 97) = a1 by omega, show 49 + (a2 - 49) = a2 by omega, show a3 = 120 by omega, show 97 + (a4 - 97 + 8 * (a5 - 49)) % 8 = a4 by omega, show 49 + (a4 - 97 + 8 * (a5 - 49)) / 8 = a5 by omega]
          ·
            have eR : prR w = -1 := if_neg cR
            have eJ : prJ w = prI w := if_neg cR
            have h39 : prN w - 2 - prX w = prJ w := h3.symm
            have hn : (w.length : Int) = 5 := by unfold prZ at *; omega
            have eN9 : prN w = 5 := by omega
            unfold prT at hT h2 ⊢
            unfold prZ at *
            rw [eN9] at hT h2 ⊢
            obtain ⟨a0, a1, a2, a3, a4, rfl⟩ := len_5 hn
            have ga : wA [a0, a1, a2, a3, a4] (5 - 2) = a3 := rfl
            have gb : wA [a0, a1, a2, a3, a4] (5 - 1) = a4 := rfl
            rw [ga, gb] at hT ⊢
            have g0 : wA [a0, a1, a2, a3, a4] 0 = a0 := rfl
            rw [g0] at cK eK kb
            have cx2 := cX.2
            rw [eN9, show wA [a0, a1, a2, a3, a4] (5 - 2 - 1) = a2 from rfl] at cx2
            have cf2 := cF.2
            rw [eS, show wA [a0, a1, a2, a3, a4] 1 = a1 from rfl] at cf2 eF
            rw [eK, eF, eR, eX, eB, hT.2.2]
            obtain ⟨⟨t1, t2⟩, ⟨t3, t4⟩, t5⟩ := hT
            refine ⟨⟨by omega, by omega, by omega, by omega, by omega, by omega, by omega⟩, ?_⟩
            unfold rend
            rw [if_pos cK, if_pos (by omega), if_neg (by decide), if_pos rfl, if_neg (by decide)]
            show [a0, a1, a2, a3, a4] = [ltK (kO a0), 97 + (a1 - 97), 120, 97 + (a3 - 97 + 8 * (a4 - 49)) % 8, 49 + (a3 - 97 + 8 * (a4 - 49)) / 8]
            rw [lt_kO cK]
            rw [show 97 + (a1 - 97) = a1 by omega, show a2 = 120 by omega, show 97 + (a3 - 97 + 8 * (a4 - 49)) % 8 = a3 by omega, show 49 + (a3 - 97 + 8 * (a4 - 49)) / 8 = a4 by omega]
        ·
          have eF : prF w = -1 := if_neg cF
          have eI : prI w = prS w := if_neg cF
          by_cases cR : prI w < prZ w ∧ prK w ≠ 1 ∧ 49 ≤ wA w (prI w) ∧ wA w (prI w) ≤ 56
          ·
            have eR : prR w = wA w (prI w) - 49 := if_pos cR
            have eJ : prJ w = prI w + 1 := if_pos cR
            have h39 : prN w - 2 - prX w = prJ w := h3.symm
            have hn : (w.length : Int) = 5 := by unfold prZ at *; omega
            have eN9 : prN w = 5 := by omega
            unfold prT at hT h2 ⊢
            unfold prZ at *
            rw [eN9] at hT h2 ⊢
            obtain ⟨a0, a1, a2, a3, a4, rfl⟩ := len_5 hn
            have ga : wA [a0, a1, a2, a3, a4] (5 - 2) = a3 := rfl
            have gb : wA [a0, a1, a2, a3, a4] (5 - 1) = a4 := rfl
            rw [ga, gb] at hT ⊢
            have g0 : wA [a0, a1, a2, a3, a4] 0 = a0 := rfl
            rw [g0] at cK eK kb
            have cx2 := cX.2
            rw [eN9, show wA [a0, a1, a2, a3, a4] (5 - 2 - 1) = a2 from rfl] at cx2
            have cr2 := cR.2.2
            rw [eI, eS, show wA [a0, a1, a2, a3, a4] 1 = a1 from rfl] at cr2 eR
            rw [eK, eF, eR, eX, eB, hT.2.2]
            obtain ⟨⟨t1, t2⟩, ⟨t3, t4⟩, t5⟩ := hT
            refine ⟨⟨by omega, by omega, by omega, by omega, by omega, by omega, by omega⟩, ?_⟩
            unfold rend
            rw [if_pos cK, if_neg (by decide), if_pos (by omega), if_pos rfl, if_neg (by decide)]
            show [a0, a1, a2, a3, a4] = [ltK (kO a0), 49 + (a1 - 49), 120, 97 + (a3 - 97 + 8 * (a4 - 49)) % 8, 49 + (a3 - 97 + 8 * (a4 - 49)) / 8]
            rw [lt_kO cK]
            rw [show 49 + (a1 - 49) = a1 by omega, show a2 = 120 by omega, show 97 + (a3 - 97 + 8 * (a4 - 49)) % 8 = a3 by omega, show 49 + (a3 - 97 + 8 * (a4 - 49)) / 8 = a4 by omega]
          ·
            have eR : prR w = -1 := if_neg cR
            have eJ : prJ w = prI w := if_neg cR
            have h39 : prN w - 2 - prX w = prJ w := h3.symm
            have hn : (w.length : Int) = 4 := by unfold prZ at *; omega
            have eN9 : prN w = 4 := by omega
            unfold prT at hT h2 ⊢
            unfold prZ at *
            rw [eN9] at hT h2 ⊢
            obtain ⟨a0, a1, a2, a3, rfl⟩ := len_4 hn
            have ga : wA [a0, a1, a2, a3] (4 - 2) = a2 := rfl
            have gb : wA [a0, a1, a2, a3] (4 - 1) = a3 := rfl
            rw [ga, gb] at hT ⊢
            have g0 : wA [a0, a1, a2, a3] 0 = a0 := rfl
            rw [g0] at cK eK kb
            have cx2 := cX.2
            rw [eN9, show wA [a0, a1, a2, a3] (4 - 2 - 1) = a1 from rfl] at cx2
            rw [eK, eF, eR, eX, eB, hT.2.2]
            obtain ⟨⟨t1, t2⟩, ⟨t3, t4⟩, t5⟩ := hT
            refine ⟨⟨by omega, by omega, by omega, by omega, by omega, by omega, by omega⟩, ?_⟩
            unfold rend
            rw [if_pos cK, if_neg (by decide), if_neg (by decide), if_pos rfl, if_neg (by decide)]
            show [a0, a1, a2, a3] = [ltK (kO a0), 120, 97 + (a2 - 97 + 8 * (a3 - 49)) % 8, 49 + (a2 - 97 + 8 * (a3 - 49)) / 8]
            rw [lt_kO cK]
            rw [show a1 = 120 by omega, show 97 + (a2 - 97 + 8 * (a3 - 49)) % 8 = a2 by omega, show 49 + (a2 - 97 + 8 * (a3 - 49)) / 8 = a3 by omega]
      ·
        have eX : prX w = 0 := if_neg cX
        by_cases cF : prS w < prZ w ∧ 97 ≤ wA w (prS w) ∧ wA w (prS w) ≤ 104
        ·
          have eF : prF w = wA w (prS w) - 97 := if_pos cF
          have eI : prI w = prS w + 1 := if_pos cF
          by_cases cR : prI w < prZ w ∧ prK w ≠ 1 ∧ 49 ≤ wA w (prI w) ∧ wA w (prI w) ≤ 56
          ·
            have eR : prR w = wA w (prI w) - 49 := if_pos cR
            have eJ : prJ w = prI w + 1 := if_pos cR
            have h39 : prN w - 2 - prX w = prJ w := h3.symm
            have hn : (w.length : Int) = 5 := by unfold prZ at *; omega
            have eN9 : prN w = 5 := by omega
            unfold prT at hT h2 ⊢
            unfold prZ at *
            rw [eN9] at hT h2 ⊢
            obtain ⟨a0, a1, a2, a3, a4, rfl⟩ := len_5 hn
            have ga : wA [a0, a1, a2, a3, a4] (5 - 2) = a3 := rfl
            have gb : wA [a0, a1, a2, a3, a4] (5 - 1) = a4 := rfl
            rw [ga, gb] at hT ⊢
            have g0 : wA [a0, a1, a2, a3, a4] 0 = a0 := rfl
            rw [g0] at cK eK kb
            have cf2 := cF.2
            rw [eS, show wA [a0, a1, a2, a3, a4] 1 = a1 from rfl] at cf2 eF
            have cr2 := cR.2.2
            rw [eI, eS, show wA [a0, a1, a2, a3, a4] (1 + 1) = a2 from rfl] at cr2 eR
            rw [eK, eF, eR, eX, eB, hT.2.2]
            obtain ⟨⟨t1, t2⟩, ⟨t3, t4⟩, t5⟩ := hT
            refine ⟨⟨by omega, by omega, by omega, by omega, by omega, by omega, by omega⟩, ?_⟩
            unfold rend
            rw [if_pos cK, if_pos (by omega), if_pos (by omega), if_neg (by decide), if_neg (by decide)]
            show [a0, a1, a2, a3, a4] = [ltK (kO a0), 97 + (a1 - 97), 49 + (a2 - 49), 97 + (a3 - 97 + 8 * (a4 - 49)) % 8, 49 + (a3 - 97 + 8 * (a4 - 49)) / 8]
            rw [lt_kO cK]
            rw [show 97 + (a1 - 97) = a1 by omega, show 49 + (a2 - 49) = a2 by omega, show 97 + (a3 - 97 + 8 * (a4 - 49)) % 8 = a3 by omega, show 49 + (a3 - 97 + 8 * (a4 - 49)) / 8 = a4 by omega]
          ·
            have eR : prR w = -1 := if_neg cR
            have eJ : prJ w = prI w := if_neg cR
            have h39 : prN w - 2 - prX w = prJ w := h3.symm
            have hn : (w.length : Int) = 4 := by unfold prZ at *; omega
            have eN9 : prN w = 4 := by omega
            unfold prT at hT h2 ⊢
            unfold prZ at *
            rw [eN9] at hT h2 ⊢
            obtain ⟨a0, a1, a2, a3, rfl⟩ := len_4 hn
            have ga : wA [a0, a1, a2, a3] (4 - 2) = a2 := rfl
            have gb : wA [a0, a1, a2, a3] (4 - 1) = a3 := rfl
            rw [ga, gb] at hT ⊢
            have g0 : wA [a0, a1, a2, a3] 0 = a0 := rfl
            rw [g0] at cK eK kb
            have cf2 := cF.2
            rw [eS, show wA [a0, a1, a2, a3] 1 = a1 from rfl] at cf2 eF
            rw [eK, eF, eR, eX, eB, hT.2.2]
            obtain ⟨⟨t1, t2⟩, ⟨t3, t4⟩, t5⟩ := hT
            refine ⟨⟨by omega, by omega, by omega, by omega, by omega, by omega, by omega⟩, ?_⟩
            unfold rend
            rw [if_pos cK, if_pos (by omega), if_neg (by decide), if_neg (by decide), if_neg (by decide)]
            show [a0, a1, a2, a3] = [ltK (kO a0), 97 + (a1 - 97), 97 + (a2 - 97 + 8 * (a3 - 49)) % 8, 49 + (a2 - 97 + 8 * (a3 - 49)) / 8]
            rw [lt_kO cK]
            rw [show 97 + (a1 - 97) = a1 by omega, show 97 + (a2 - 97 + 8 * (a3 - 49)) % 8 = a2 by omega, show 49 + (a2 - 97 + 8 * (a3 - 49)) / 8 = a3 by omega]
        ·
          have eF : prF w = -1 := if_neg cF
          have eI : prI w = prS w := if_neg cF
          by_cases cR : prI w < prZ w ∧ prK w ≠ 1 ∧ 49 ≤ wA w (prI w) ∧ wA w (prI w) ≤ 56
          ·
            have eR : prR w = wA w (prI w) - 49 := if_pos cR
            have eJ : prJ w = prI w + 1 := if_pos cR
            have h39 : prN w - 2 - prX w = prJ w := h3.symm
            have hn : (w.length : Int) = 4 := by unfold prZ at *; omega
            have eN9 : prN w = 4 := by omega
            unfold prT at hT h2 ⊢
            unfold prZ at *
            rw [eN9] at hT h2 ⊢
            obtain ⟨a0, a1, a2, a3, rfl⟩ := len_4 hn
            have ga : wA [a0, a1, a2, a3] (4 - 2) = a2 := rfl
            have gb : wA [a0, a1, a2, a3] (4 - 1) = a3 := rfl
            rw [ga, gb] at hT ⊢
            have g0 : wA [a0, a1, a2, a3] 0 = a0 := rfl
            rw [g0] at cK eK kb
            have cr2 := cR.2.2
            rw [eI, eS, show wA [a0, a1, a2, a3] 1 = a1 from rfl] at cr2 eR
            rw [eK, eF, eR, eX, eB, hT.2.2]
            obtain ⟨⟨t1, t2⟩, ⟨t3, t4⟩, t5⟩ := hT
            refine ⟨⟨by omega, by omega, by omega, by omega, by omega, by omega, by omega⟩, ?_⟩
            unfold rend
            rw [if_pos cK, if_neg (by decide), if_pos (by omega), if_neg (by decide), if_neg (by decide)]
            show [a0, a1, a2, a3] = [ltK (kO a0), 49 + (a1 - 49), 97 + (a2 - 97 + 8 * (a3 - 49)) % 8, 49 + (a2 - 97 + 8 * (a3 - 49)) / 8]
            rw [lt_kO cK]
            rw [show 49 + (a1 - 49) = a1 by omega, show 97 + (a2 - 97 + 8 * (a3 - 49)) % 8 = a2 by omega, show 49 + (a2 - 97 + 8 * (a3 - 49)) / 8 = a3 by omega]
          ·
            have eR : prR w = -1 := if_neg cR
            have eJ : prJ w = prI w := if_neg cR
            have h39 : prN w - 2 - prX w = prJ w := h3.symm
            have hn : (w.length : Int) = 3 := by unfold prZ at *; omega
            have eN9 : prN w = 3 := by omega
            unfold prT at hT h2 ⊢
            unfold prZ at *
            rw [eN9] at hT h2 ⊢
            obtain ⟨a0, a1, a2, rfl⟩ := len_3 hn
            have ga : wA [a0, a1, a2] (3 - 2) = a1 := rfl
            have gb : wA [a0, a1, a2] (3 - 1) = a2 := rfl
            rw [ga, gb] at hT ⊢
            have g0 : wA [a0, a1, a2] 0 = a0 := rfl
            rw [g0] at cK eK kb
            rw [eK, eF, eR, eX, eB, hT.2.2]
            obtain ⟨⟨t1, t2⟩, ⟨t3, t4⟩, t5⟩ := hT
            refine ⟨⟨by omega, by omega, by omega, by omega, by omega, by omega, by omega⟩, ?_⟩
            unfold rend
            rw [if_pos cK, if_neg (by decide), if_neg (by decide), if_neg (by decide), if_neg (by decide)]
            show [a0, a1, a2] = [ltK (kO a0), 97 + (a1 - 97 + 8 * (a2 - 49)) % 8, 49 + (a1 - 97 + 8 * (a2 - 49)) / 8]
            rw [lt_kO cK]
            rw [show 97 + (a1 - 97 + 8 * (a2 - 49)) % 8 = a1 by omega, show 49 + (a1 - 97 + 8 * (a2 - 49)) / 8 = a2 by omega]
  ·
    have eK : prK w = 1 := if_neg cK
    have eS : prS w = 0 := if_neg cK
    by_cases cE : prK w = 1 ∧ wA w ((w.length : Int) - 2) = 61
    ·
      have eB : prB w = kO (wA w ((w.length : Int) - 1)) := if_pos cE
      have eN : prN w = (w.length : Int) - 2 := if_pos cE
      by_cases cX : prS w < prN w - 2 ∧ wA w (prN w - 2 - 1) = 120
      ·
        have eX : prX w = 1 := if_pos cX
        by_cases cF : prS w < prZ w ∧ 97 ≤ wA w (prS w) ∧ wA w (prS w) ≤ 104
        ·
          have eF : prF w = wA w (prS w) - 97 := if_pos cF
          have eI : prI w = prS w + 1 := if_pos cF
          by_cases cR : prI w < prZ w ∧ prK w ≠ 1 ∧ 49 ≤ wA w (prI w) ∧ wA w (prI w) ≤ 56
          ·
            exact absurd eK cR.2.1
          ·
            have eR : prR w = -1 := if_neg cR
            have eJ : prJ w = prI w := if_neg cR
            have h39 : prN w - 2 - prX w = prJ w := h3.symm
            have hn : (w.length : Int) = 6 := by unfold prZ at *; omega
            have eN9 : prN w = 4 := by omega
            unfold prT at hT h2 ⊢
            unfold prZ at *
            rw [eN9] at hT h2 ⊢
            obtain ⟨a0, a1, a2, a3, a4, a5, rfl⟩ := len_6 hn
            have ga : wA [a0, a1, a2, a3, a4, a5] (4 - 2) = a2 := rfl
            have gb : wA [a0, a1, a2, a3, a4, a5] (4 - 1) = a3 := rfl
            rw [ga, gb] at hT ⊢
            have gq : wA [a0, a1, a2, a3, a4, a5] (([a0, a1, a2, a3, a4, a5] : List Int).length - 1 : Int) = a5 := rfl
            rw [gq] at eB qb
            have ge : wA [a0, a1, a2, a3, a4, a5] (([a0, a1, a2, a3, a4, a5] : List Int).length - 2 : Int) = a4 := rfl
            have ce2 := cE.2
            rw [ge] at ce2
            have cx2 := cX.2
            rw [eN9, show wA [a0, a1, a2, a3, a4, a5] (4 - 2 - 1) = a1 from rfl] at cx2
            have cf2 := cF.2
            rw [eS, show wA [a0, a1, a2, a3, a4, a5] 0 = a0 from rfl] at cf2 eF
            rw [eK, eF, eR, eX, eB, hT.2.2]
            obtain ⟨⟨t1, t2⟩, ⟨t3, t4⟩, t5⟩ := hT
            have hB := h1 cE
            rw [eB] at hB
            refine ⟨⟨by omega, by omega, by omega, by omega, by omega, by omega, by omega⟩, ?_⟩
            unfold rend
            rw [if_neg (by decide), if_pos (by omega), if_neg (by decide), if_pos rfl, if_pos hB.1]
            show [a0, a1, a2, a3, a4, a5] = [97 + (a0 - 97), 120, 97 + (a2 - 97 + 8 * (a3 - 49)) % 8, 49 + (a2 - 97 + 8 * (a3 - 49)) / 8, 61, ltK (kO a5)]
            rw [lt_kO hB.1]
            rw [show 97 + (a0 - 97) = a0 by omega, show a1 = 120 by omega, show 97 + (a2 - 97 + 8 * (a3 - 49)) % 8 = a2 by omega, show 49 + (a2 - 97 + 8 * (a3 - 49)) / 8 = a3 by omega, show a4 = 61 by omega]
        ·
          have eF : prF w = -1 := if_neg cF
          have eI : prI w = prS w := if_neg cF
          by_cases cR : prI w < prZ w ∧ prK w ≠ 1 ∧ 49 ≤ wA w (prI w) ∧ wA w (prI w) ≤ 56
          ·
            exact absurd eK cR.2.1
          ·
            have eR : prR w = -1 := if_neg cR
            have eJ : prJ w = prI w := if_neg cR
            have h39 : prN w - 2 - prX w = prJ w := h3.symm
            have hn : (w.length : Int) = 5 := by unfold prZ at *; omega
            have eN9 : prN w = 3 := by omega
            unfold prT at hT h2 ⊢
            unfold prZ at *
            rw [eN9] at hT h2 ⊢
            obtain ⟨a0, a1, a2, a3, a4, rfl⟩ := len_5 hn
            have ga : wA [a0, a1, a2, a3, a4] (3 - 2) = a1 := rfl
            have gb : wA [a0, a1, a2, a3, a4] (3 - 1) = a2 := rfl
            rw [ga, gb] at hT ⊢
            have gq : wA [a0, a1, a2, a3, a4] (([a0, a1, a2, a3, a4] : List Int).length - 1 : Int) = a4 := rfl
            rw [gq] at eB qb
            have ge : wA [a0, a1, a2, a3, a4] (([a0, a1, a2, a3, a4] : List Int).length - 2 : Int) = a3 := rfl
            have ce2 := cE.2
            rw [ge] at ce2
            have cx2 := cX.2
            rw [eN9, show wA [a0, a1, a2, a3, a4] (3 - 2 - 1) = a0 from rfl] at cx2
            rw [eK, eF, eR, eX, eB, hT.2.2]
            obtain ⟨⟨t1, t2⟩, ⟨t3, t4⟩, t5⟩ := hT
            have hB := h1 cE
            rw [eB] at hB
            refine ⟨⟨by omega, by omega, by omega, by omega, by omega, by omega, by omega⟩, ?_⟩
            unfold rend
            rw [if_neg (by decide), if_neg (by decide), if_neg (by decide), if_pos rfl, if_pos hB.1]
            show [a0, a1, a2, a3, a4] = [120, 97 + (a1 - 97 + 8 * (a2 - 49)) % 8, 49 + (a1 - 97 + 8 * (a2 - 49)) / 8, 61, ltK (kO a4)]
            rw [lt_kO hB.1]
            rw [show a0 = 120 by omega, show 97 + (a1 - 97 + 8 * (a2 - 49)) % 8 = a1 by omega, show 49 + (a1 - 97 + 8 * (a2 - 49)) / 8 = a2 by omega, show a3 = 61 by omega]
      ·
        have eX : prX w = 0 := if_neg cX
        by_cases cF : prS w < prZ w ∧ 97 ≤ wA w (prS w) ∧ wA w (prS w) ≤ 104
        ·
          have eF : prF w = wA w (prS w) - 97 := if_pos cF
          have eI : prI w = prS w + 1 := if_pos cF
          by_cases cR : prI w < prZ w ∧ prK w ≠ 1 ∧ 49 ≤ wA w (prI w) ∧ wA w (prI w) ≤ 56
          ·
            exact absurd eK cR.2.1
          ·
            have eR : prR w = -1 := if_neg cR
            have eJ : prJ w = prI w := if_neg cR
            have h39 : prN w - 2 - prX w = prJ w := h3.symm
            have hn : (w.length : Int) = 5 := by unfold prZ at *; omega
            have eN9 : prN w = 3 := by omega
            unfold prT at hT h2 ⊢
            unfold prZ at *
            rw [eN9] at hT h2 ⊢
            obtain ⟨a0, a1, a2, a3, a4, rfl⟩ := len_5 hn
            have ga : wA [a0, a1, a2, a3, a4] (3 - 2) = a1 := rfl
            have gb : wA [a0, a1, a2, a3, a4] (3 - 1) = a2 := rfl
            rw [ga, gb] at hT ⊢
            have gq : wA [a0, a1, a2, a3, a4] (([a0, a1, a2, a3, a4] : List Int).length - 1 : Int) = a4 := rfl
            rw [gq] at eB qb
            have ge : wA [a0, a1, a2, a3, a4] (([a0, a1, a2, a3, a4] : List Int).length - 2 : Int) = a3 := rfl
            have ce2 := cE.2
            rw [ge] at ce2
            have cf2 := cF.2
            rw [eS, show wA [a0, a1, a2, a3, a4] 0 = a0 from rfl] at cf2 eF
            rw [eK, eF, eR, eX, eB, hT.2.2]
            obtain ⟨⟨t1, t2⟩, ⟨t3, t4⟩, t5⟩ := hT
            have hB := h1 cE
            rw [eB] at hB
            refine ⟨⟨by omega, by omega, by omega, by omega, by omega, by omega, by omega⟩, ?_⟩
            unfold rend
            rw [if_neg (by decide), if_pos (by omega), if_neg (by decide), if_neg (by decide), if_pos hB.1]
            show [a0, a1, a2, a3, a4] = [97 + (a0 - 97), 97 + (a1 - 97 + 8 * (a2 - 49)) % 8, 49 + (a1 - 97 + 8 * (a2 - 49)) / 8, 61, ltK (kO a4)]
            rw [lt_kO hB.1]
            rw [show 97 + (a0 - 97) = a0 by omega, show 97 + (a1 - 97 + 8 * (a2 - 49)) % 8 = a1 by omega, show 49 + (a1 - 97 + 8 * (a2 - 49)) / 8 = a2 by omega, show a3 = 61 by omega]
        ·
          have eF : prF w = -1 := if_neg cF
          have eI : prI w = prS w := if_neg cF
          by_cases cR : prI w < prZ w ∧ prK w ≠ 1 ∧ 49 ≤ wA w (prI w) ∧ wA w (prI w) ≤ 56
          ·
            exact absurd eK cR.2.1
          ·
            have eR : prR w = -1 := if_neg cR
            have eJ : prJ w = prI w := if_neg cR
            have h39 : prN w - 2 - prX w = prJ w := h3.symm
            have hn : (w.length : Int) = 4 := by unfold prZ at *; omega
            have eN9 : prN w = 2 := by omega
            unfold prT at hT h2 ⊢
            unfold prZ at *
            rw [eN9] at hT h2 ⊢
            obtain ⟨a0, a1, a2, a3, rfl⟩ := len_4 hn
            have ga : wA [a0, a1, a2, a3] (2 - 2) = a0 := rfl
            have gb : wA [a0, a1, a2, a3] (2 - 1) = a1 := rfl
            rw [ga, gb] at hT ⊢
            have gq : wA [a0, a1, a2, a3] (([a0, a1, a2, a3] : List Int).length - 1 : Int) = a3 := rfl
            rw [gq] at eB qb
            have ge : wA [a0, a1, a2, a3] (([a0, a1, a2, a3] : List Int).length - 2 : Int) = a2 := rfl
            have ce2 := cE.2
            rw [ge] at ce2
            rw [eK, eF, eR, eX, eB, hT.2.2]
            obtain ⟨⟨t1, t2⟩, ⟨t3, t4⟩, t5⟩ := hT
            have hB := h1 cE
            rw [eB] at hB
            refine ⟨⟨by omega, by omega, by omega, by omega, by omega, by omega, by omega⟩, ?_⟩
            unfold rend
            rw [if_neg (by decide), if_neg (by decide), if_neg (by decide), if_neg (by decide), if_pos hB.1]
            show [a0, a1, a2, a3] = [97 + (a0 - 97 + 8 * (a1 - 49)) % 8, 49 + (a0 - 97 + 8 * (a1 - 49)) / 8, 61, ltK (kO a3)]
            rw [lt_kO hB.1]
            rw [show 97 + (a0 - 97 + 8 * (a1 - 49)) % 8 = a0 by omega, show 49 + (a0 - 97 + 8 * (a1 - 49)) / 8 = a1 by omega, show a2 = 61 by omega]
    ·
      have eB : prB w = 0 := if_neg cE
      have eN : prN w = (w.length : Int) := if_neg cE
      by_cases cX : prS w < prN w - 2 ∧ wA w (prN w - 2 - 1) = 120
      ·
        have eX : prX w = 1 := if_pos cX
        by_cases cF : prS w < prZ w ∧ 97 ≤ wA w (prS w) ∧ wA w (prS w) ≤ 104
        ·
          have eF : prF w = wA w (prS w) - 97 := if_pos cF
          have eI : prI w = prS w + 1 := if_pos cF
          by_cases cR : prI w < prZ w ∧ prK w ≠ 1 ∧ 49 ≤ wA w (prI w) ∧ wA w (prI w) ≤ 56
          ·
            exact absurd eK cR.2.1
          ·
            have eR : prR w = -1 := if_neg cR
            have eJ : prJ w = prI w := if_neg cR
            have h39 : prN w - 2 - prX w = prJ w := h3.symm
            have hn : (w.length : Int) = 4 := by unfold prZ at *; omega
            have eN9 : prN w = 4 := by omega
            unfold prT at hT h2 ⊢
            unfold prZ at *
            rw [eN9] at hT h2 ⊢
            obtain ⟨a0, a1, a2, a3, rfl⟩ := len_4 hn
            have ga : wA [a0, a1, a2, a3] (4 - 2) = a2 := rfl
            have gb : wA [a0, a1, a2, a3] (4 - 1) = a3 := rfl
            rw [ga, gb] at hT ⊢
            have cx2 := cX.2
            rw [eN9, show wA [a0, a1, a2, a3] (4 - 2 - 1) = a1 from rfl] at cx2
            have cf2 := cF.2
            rw [eS, show wA [a0, a1, a2, a3] 0 = a0 from rfl] at cf2 eF
            rw [eK, eF, eR, eX, eB, hT.2.2]
            obtain ⟨⟨t1, t2⟩, ⟨t3, t4⟩, t5⟩ := hT
            refine ⟨⟨by omega, by omega, by omega, by omega, by omega, by omega, by omega⟩, ?_⟩
            unfold rend
            rw [if_neg (by decide), if_pos (by omega), if_neg (by decide), if_pos rfl, if_neg (by decide)]
            show [a0, a1, a2, a3] = [97 + (a0 - 97), 120, 97 + (a2 - 97 + 8 * (a3 - 49)) % 8, 49 + (a2 - 97 + 8 * (a3 - 49)) / 8]
            rw [show 97 + (a0 - 97) = a0 by omega, show a1 = 120 by omega, show 97 + (a2 - 97 + 8 * (a3 - 49)) % 8 = a2 by omega, show 49 + (a2 - 97 + 8 * (a3 - 49)) / 8 = a3 by omega]
        ·
          have eF : prF w = -1 := if_neg cF
          have eI : prI w = prS w := if_neg cF
          by_cases cR : prI w < prZ w ∧ prK w ≠ 1 ∧ 49 ≤ wA w (prI w) ∧ wA w (prI w) ≤ 56
          ·
            exact absurd eK cR.2.1
          ·
            have eR : prR w = -1 := if_neg cR
            have eJ : prJ w = prI w := if_neg cR
            have h39 : prN w - 2 - prX w = prJ w := h3.symm
            have hn : (w.length : Int) = 3 := by unfold prZ at *; omega
            have eN9 : prN w = 3 := by omega
            unfold prT at hT h2 ⊢
            unfold prZ at *
            rw [eN9] at hT h2 ⊢
            obtain ⟨a0, a1, a2, rfl⟩ := len_3 hn
            have ga : wA [a0, a1, a2] (3 - 2) = a1 := rfl
            have gb : wA [a0, a1, a2] (3 - 1) = a2 := rfl
            rw [ga, gb] at hT ⊢
            have cx2 := cX.2
            rw [eN9, show wA [a0, a1, a2] (3 - 2 - 1) = a0 from rfl] at cx2
            rw [eK, eF, eR, eX, eB, hT.2.2]
            obtain ⟨⟨t1, t2⟩, ⟨t3, t4⟩, t5⟩ := hT
            refine ⟨⟨by omega, by omega, by omega, by omega, by omega, by omega, by omega⟩, ?_⟩
            unfold rend
            rw [if_neg (by decide), if_neg (by decide), if_neg (by decide), if_pos rfl, if_neg (by decide)]
            show [a0, a1, a2] = [120, 97 + (a1 - 97 + 8 * (a2 - 49)) % 8, 49 + (a1 - 97 + 8 * (a2 - 49)) / 8]
            rw [show a0 = 120 by omega, show 97 + (a1 - 97 + 8 * (a2 - 49)) % 8 = a1 by omega, show 49 + (a1 - 97 + 8 * (a2 - 49)) / 8 = a2 by omega]
      ·
        have eX : prX w = 0 := if_neg cX
        by_cases cF : prS w < prZ w ∧ 97 ≤ wA w (prS w) ∧ wA w (prS w) ≤ 104
        ·
          have eF : prF w = wA w (prS w) - 97 := if_pos cF
          have eI : prI w = prS w + 1 := if_pos cF
          by_cases cR : prI w < prZ w ∧ prK w ≠ 1 ∧ 49 ≤ wA w (prI w) ∧ wA w (prI w) ≤ 56
          ·
            exact absurd eK cR.2.1
          ·
            have eR : prR w = -1 := if_neg cR
            have eJ : prJ w = prI w := if_neg cR
            have h39 : prN w - 2 - prX w = prJ w := h3.symm
            have hn : (w.length : Int) = 3 := by unfold prZ at *; omega
            have eN9 : prN w = 3 := by omega
            unfold prT at hT h2 ⊢
            unfold prZ at *
            rw [eN9] at hT h2 ⊢
            obtain ⟨a0, a1, a2, rfl⟩ := len_3 hn
            have ga : wA [a0, a1, a2] (3 - 2) = a1 := rfl
            have gb : wA [a0, a1, a2] (3 - 1) = a2 := rfl
            rw [ga, gb] at hT ⊢
            have cf2 := cF.2
            rw [eS, show wA [a0, a1, a2] 0 = a0 from rfl] at cf2 eF
            rw [eK, eF, eR, eX, eB, hT.2.2]
            obtain ⟨⟨t1, t2⟩, ⟨t3, t4⟩, t5⟩ := hT
            refine ⟨⟨by omega, by omega, by omega, by omega, by omega, by omega, by omega⟩, ?_⟩
            unfold rend
            rw [if_neg (by decide), if_pos (by omega), if_neg (by decide), if_neg (by decide), if_neg (by decide)]
            show [a0, a1, a2] = [97 + (a0 - 97), 97 + (a1 - 97 + 8 * (a2 - 49)) % 8, 49 + (a1 - 97 + 8 * (a2 - 49)) / 8]
            rw [show 97 + (a0 - 97) = a0 by omega, show 97 + (a1 - 97 + 8 * (a2 - 49)) % 8 = a1 by omega, show 49 + (a1 - 97 + 8 * (a2 - 49)) / 8 = a2 by omega]
        ·
          have eF : prF w = -1 := if_neg cF
          have eI : prI w = prS w := if_neg cF
          by_cases cR : prI w < prZ w ∧ prK w ≠ 1 ∧ 49 ≤ wA w (prI w) ∧ wA w (prI w) ≤ 56
          ·
            exact absurd eK cR.2.1
          ·
            have eR : prR w = -1 := if_neg cR
            have eJ : prJ w = prI w := if_neg cR
            have h39 : prN w - 2 - prX w = prJ w := h3.symm
            have hn : (w.length : Int) = 2 := by unfold prZ at *; omega
            have eN9 : prN w = 2 := by omega
            unfold prT at hT h2 ⊢
            unfold prZ at *
            rw [eN9] at hT h2 ⊢
            obtain ⟨a0, a1, rfl⟩ := len_2 hn
            have ga : wA [a0, a1] (2 - 2) = a0 := rfl
            have gb : wA [a0, a1] (2 - 1) = a1 := rfl
            rw [ga, gb] at hT ⊢
            rw [eK, eF, eR, eX, eB, hT.2.2]
            obtain ⟨⟨t1, t2⟩, ⟨t3, t4⟩, t5⟩ := hT
            refine ⟨⟨by omega, by omega, by omega, by omega, by omega, by omega, by omega⟩, ?_⟩
            unfold rend
            rw [if_neg (by decide), if_neg (by decide), if_neg (by decide), if_neg (by decide), if_neg (by decide)]
            show [a0, a1] = [97 + (a0 - 97 + 8 * (a1 - 49)) % 8, 49 + (a0 - 97 + 8 * (a1 - 49)) / 8]
            rw [show 97 + (a0 - 97 + 8 * (a1 - 49)) % 8 = a0 by omega, show 49 + (a0 - 97 + 8 * (a1 - 49)) / 8 = a1 by omega]
