def mIs : List Nat := [0, 1, 3, 5, 6, 25, 26, 27, 28, 29, 33, 36, 37, 38, 39]
def mSz : List (Nat × Nat) := [(2, 2000), (4, 80000), (7, 2), (8, 602), (9, 602), (10, 602), (11, 602), (12, 602), (13, 2408), (14, 602), (15, 120400), (16, 128), (17, 10), (18, 2), (19, 16), (20, 192), (21, 16), (22, 1536), (23, 2), (24, 64), (30, 64), (31, 5), (32, 2048), (34, 301), (35, 16)]
theorem vc_i {cA : ClassId} {n : Nat} {f f' : Nat → Int32} (h : ∀ i, i < n → f' i = f i) : vp_cell cA (n, .inl f') = vp_cell cA (n, .inl f) := congrArg (fun g : Fin n → Value => ({ cls := cA, slots := Array.ofFn g, vm := .none } : Cell)) (funext fun j => congrArg Value.int (h j.val j.isLt))
theorem m_ren {D : va_G} {cy ci : ClassId} {h : Nat → Nat} {I I' : Nat → Int32} {A A' : Nat → Nat → Int32} {H : Heap} (hI : ∀ k ∈ mIs, I' k = I k) (hA : ∀ q ∈ mSz, ∀ i, i < q.2 → A' q.1 i = A q.1 i) (hP : va_P D vwCl (mW cy ci h I A) H) : va_P D vwCl (mW cy ci h I' A') H := by
  have hF : mF h I' = mF h I := by
    show [Value.int (I' 0), Value.int (I' 1), .ref (h 2), Value.int (I' 3), .ref (h 4), Value.int (I' 5), Value.int (I' 6), .ref (h 7), .ref (h 8), .ref (h 9), .ref (h 10), .ref (h 11), .ref (h 12), .ref (h 13), .ref (h 14), .ref (h 15), .ref (h 16), .ref (h 17), .ref (h 18), .ref (h 19), .ref (h 20), .ref (h 21), .ref (h 22), .ref (h 23), .ref (h 24), Value.int (I' 25), Value.int (I' 26), Value.int (I' 27), Value.int (I' 28), Value.int (I' 29), .ref (h 30), .ref (h 31), .ref (h 32), Value.int (I' 33), .ref (h 34), .ref (h 35), Value.int (I' 36), Value.int (I' 37), Value.int (I' 38), Value.int (I' 39)] = [Value.int (I 0), Value.int (I 1), .ref (h 2), Value.int (I 3), .ref (h 4), Value.int (I 5), Value.int (I 6), .ref (h 7), .ref (h 8), .ref (h 9), .ref (h 10), .ref (h 11), .ref (h 12), .ref (h 13), .ref (h 14), .ref (h 15), .ref (h 16), .ref (h 17), .ref (h 18), .ref (h 19), .ref (h 20), .ref (h 21), .ref (h 22), .ref (h 23), .ref (h 24), Value.int (I 25), Value.int (I 26), Value.int (I 27), Value.int (I 28), Value.int (I 29), .ref (h 30), .ref (h 31), .ref (h 32), Value.int (I 33), .ref (h 34), .ref (h 35), Value.int (I 36), Value.int (I 37), Value.int (I 38), Value.int (I 39)]
    rw [hI 0 (by decide), hI 1 (by decide), hI 3 (by decide), hI 5 (by decide), hI 6 (by decide), hI 25 (by decide), hI 26 (by decide), hI 27 (by decide), hI 28 (by decide), hI 29 (by decide), hI 33 (by decide), hI 36 (by decide), hI 37 (by decide), hI 38 (by decide), hI 39 (by decide)]
  intro k x hx
  match k, hx with
  | 0, hx =>
    cases hx
    have h0 := hP 0 _ rfl
    show va_at D vwCl (h 0, .inr (12, mF h I')) H
    rw [hF]
    exact h0
  | 1, hx =>
    cases hx
    have h0 : H[h 2]? = some (vp_cell cy (2000, .inl (A 2))) := hP 1 _ rfl
    show H[h 2]? = some (vp_cell cy (2000, .inl (A' 2)))
    rw [vc_i (hA (2, 2000) (by decide))]
    exact h0
  | 2, hx =>
    cases hx
    have h0 : H[h 4]? = some (vp_cell cy (80000, .inl (A 4))) := hP 2 _ rfl
    show H[h 4]? = some (vp_cell cy (80000, .inl (A' 4)))
    rw [vc_i (hA (4, 80000) (by decide))]
    exact h0
  | 3, hx =>
    cases hx
    have h0 : H[h 7]? = some (vp_cell ci (2, .inl (A 7))) := hP 3 _ rfl
    show H[h 7]? = some (vp_cell ci (2, .inl (A' 7)))
    rw [vc_i (hA (7, 2) (by decide))]
    exact h0
  | 4, hx =>
    cases hx
    have h0 : H[h 8]? = some (vp_cell ci (602, .inl (A 8))) := hP 4 _ rfl
    show H[h 8]? = some (vp_cell ci (602, .inl (A' 8)))
    rw [vc_i (hA (8, 602) (by decide))]
    exact h0
  | 5, hx =>
    cases hx
    have h0 : H[h 9]? = some (vp_cell ci (602, .inl (A 9))) := hP 5 _ rfl
    show H[h 9]? = some (vp_cell ci (602, .inl (A' 9)))
    rw [vc_i (hA (9, 602) (by decide))]
    exact h0
  | 6, hx =>
    cases hx
    have h0 : H[h 10]? = some (vp_cell ci (602, .inl (A 10))) := hP 6 _ rfl
    show H[h 10]? = some (vp_cell ci (602, .inl (A' 10)))
    rw [vc_i (hA (10, 602) (by decide))]
    exact h0
  | 7, hx =>
    cases hx
    have h0 : H[h 11]? = some (vp_cell ci (602, .inl (A 11))) := hP 7 _ rfl
    show H[h 11]? = some (vp_cell ci (602, .inl (A' 11)))
    rw [vc_i (hA (11, 602) (by decide))]
    exact h0
  | 8, hx =>
    cases hx
    have h0 : H[h 12]? = some (vp_cell ci (602, .inl (A 12))) := hP 8 _ rfl
    show H[h 12]? = some (vp_cell ci (602, .inl (A' 12)))
    rw [vc_i (hA (12, 602) (by decide))]
    exact h0
  | 9, hx =>
    cases hx
    have h0 : H[h 13]? = some (vp_cell ci (2408, .inl (A 13))) := hP 9 _ rfl
    show H[h 13]? = some (vp_cell ci (2408, .inl (A' 13)))
    rw [vc_i (hA (13, 2408) (by decide))]
    exact h0
  | 10, hx =>
    cases hx
    have h0 : H[h 14]? = some (vp_cell ci (602, .inl (A 14))) := hP 10 _ rfl
    show H[h 14]? = some (vp_cell ci (602, .inl (A' 14)))
    rw [vc_i (hA (14, 602) (by decide))]
    exact h0
  | 11, hx =>
    cases hx
    have h0 : H[h 15]? = some (vp_cell cy (120400, .inl (A 15))) := hP 11 _ rfl
    show H[h 15]? = some (vp_cell cy (120400, .inl (A' 15)))
    rw [vc_i (hA (15, 120400) (by decide))]
    exact h0
  | 12, hx =>
    cases hx
    have h0 : H[h 16]? = some (vp_cell ci (128, .inl (A 16))) := hP 12 _ rfl
    show H[h 16]? = some (vp_cell ci (128, .inl (A' 16)))
    rw [vc_i (hA (16, 128) (by decide))]
    exact h0
  | 13, hx =>
    cases hx
    have h0 : H[h 17]? = some (vp_cell ci (10, .inl (A 17))) := hP 13 _ rfl
    show H[h 17]? = some (vp_cell ci (10, .inl (A' 17)))
    rw [vc_i (hA (17, 10) (by decide))]
    exact h0
  | 14, hx =>
    cases hx
    have h0 : H[h 18]? = some (vp_cell ci (2, .inl (A 18))) := hP 14 _ rfl
    show H[h 18]? = some (vp_cell ci (2, .inl (A' 18)))
    rw [vc_i (hA (18, 2) (by decide))]
    exact h0
  | 15, hx =>
    cases hx
    have h0 : H[h 19]? = some (vp_cell ci (16, .inl (A 19))) := hP 15 _ rfl
    show H[h 19]? = some (vp_cell ci (16, .inl (A' 19)))
    rw [vc_i (hA (19, 16) (by decide))]
    exact h0
  | 16, hx =>
    cases hx
    have h0 : H[h 20]? = some (vp_cell cy (192, .inl (A 20))) := hP 16 _ rfl
    show H[h 20]? = some (vp_cell cy (192, .inl (A' 20)))
    rw [vc_i (hA (20, 192) (by decide))]
    exact h0
  | 17, hx =>
    cases hx
    have h0 : H[h 21]? = some (vp_cell ci (16, .inl (A 21))) := hP 17 _ rfl
    show H[h 21]? = some (vp_cell ci (16, .inl (A' 21)))
    rw [vc_i (hA (21, 16) (by decide))]
    exact h0
  | 18, hx =>
    cases hx
    have h0 : H[h 22]? = some (vp_cell cy (1536, .inl (A 22))) := hP 18 _ rfl
    show H[h 22]? = some (vp_cell cy (1536, .inl (A' 22)))
    rw [vc_i (hA (22, 1536) (by decide))]
    exact h0
  | 19, hx =>
    cases hx
    have h0 : H[h 23]? = some (vp_cell ci (2, .inl (A 23))) := hP 19 _ rfl
    show H[h 23]? = some (vp_cell ci (2, .inl (A' 23)))
    rw [vc_i (hA (23, 2) (by decide))]
    exact h0
  | 20, hx =>
    cases hx
    have h0 : H[h 24]? = some (vp_cell ci (64, .inl (A 24))) := hP 20 _ rfl
    show H[h 24]? = some (vp_cell ci (64, .inl (A' 24)))
    rw [vc_i (hA (24, 64) (by decide))]
    exact h0
  | 21, hx =>
    cases hx
    have h0 : H[h 30]? = some (vp_cell ci (64, .inl (A 30))) := hP 21 _ rfl
    show H[h 30]? = some (vp_cell ci (64, .inl (A' 30)))
    rw [vc_i (hA (30, 64) (by decide))]
    exact h0
  | 22, hx =>
    cases hx
    have h0 : H[h 31]? = some (vp_cell ci (5, .inl (A 31))) := hP 22 _ rfl
    show H[h 31]? = some (vp_cell ci (5, .inl (A' 31)))
    rw [vc_i (hA (31, 5) (by decide))]
    exact h0
  | 23, hx =>
    cases hx
    have h0 : H[h 32]? = some (vp_cell ci (2048, .inl (A 32))) := hP 23 _ rfl
    show H[h 32]? = some (vp_cell ci (2048, .inl (A' 32)))
    rw [vc_i (hA (32, 2048) (by decide))]
    exact h0
  | 24, hx =>
    cases hx
    have h0 : H[h 34]? = some (vp_cell ci (301, .inl (A 34))) := hP 24 _ rfl
    show H[h 34]? = some (vp_cell ci (301, .inl (A' 34)))
    rw [vc_i (hA (34, 301) (by decide))]
    exact h0
  | 25, hx =>
    cases hx
    have h0 : H[h 35]? = some (vp_cell cy (16, .inl (A 35))) := hP 25 _ rfl
    show H[h 35]? = some (vp_cell cy (16, .inl (A' 35)))
    rw [vc_i (hA (35, 16) (by decide))]
    exact h0
  | n + 26, hx => exact absurd (List.getElem?_eq_some_iff.mp hx).1 (by show ¬ n + 26 < 26; omega)
theorem met_post {l : Launch} {y : MethodName} {ws : List Cond} {rm : Room} {Pc : Array Value → State → Prop} {Qc Qc' : Array Value → State → Outcome → State → Prop} {mc ms : Nat} {free : Addr → Prop} (h : Met l y ws rm Pc Qc mc ms free) (hq : ∀ a st o t, Qc a st o t → Qc' a st o t) : Met l y ws rm Pc Qc' mc ms free := by
  intro p e h1 h2 h3 s m args below h4 h5 h6 h7
  obtain ⟨n, o, a, b, c, d, f⟩ := h p e h1 h2 h3 s m args below h4 h5 h6 h7
  exact ⟨n, o, a, b, c, hq _ _ _ _ d, f⟩
theorem mMi_ren {l : Launch} {y : MethodName} {ws : List Cond} {rm : Room} {av : List Value} {D : va_G} {cy ci : ClassId} {h : Nat → Nat} {I : Nat → Int32} {A : Nat → Nat → Int32} {o o' : Int32 × MS} (hm : mMi l y ws rm av D cy ci h I A o) (e1 : o'.1 = o.1) (hI : ∀ k ∈ mIs, o'.2.1 k = o.2.1 k) (hA : ∀ q ∈ mSz, ∀ i, i < q.2 → o'.2.2 q.1 i = o.2.2 q.1 i) : mMi l y ws rm av D cy ci h I A o' := fun sz => met_post (hm sz) (fun a st oo t hq => by
  obtain ⟨⟨r, u, e2, hp, hb⟩, hF⟩ := hq
  exact ⟨⟨r, u, e2, by rw [e1]; exact hp, m_ren hI hA hb⟩, hF⟩)
theorem upd_ne {f : Nat → Int32} {k i : Nat} {x : Int32} (h : i ≠ k) : upd f k x i = f i := if_neg h
theorem upd_self {f : Nat → Int32} {k : Nat} {x : Int32} : upd f k x k = x := if_pos rfl
theorem keep_l {o : Int32 × MS} (n : Nat) : ∀ (j : Nat) (I : Nat → Int32) (A : Nat → Nat → Int32), j ≤ 64 → f_keep_2 n (nI j) I A = some o → (∀ i, i < j → A 30 i = A 24 i) → (∀ i, i < 64 → o.2.2 30 i = A 24 i) ∧ o.2.2 31 0 = I 25 ∧ o.2.2 31 1 = I 26 ∧ o.2.2 31 2 = I 27 ∧ o.2.2 31 3 = I 28 ∧ o.2.2 31 4 = I 29 := by
  induction n with
  | zero => intro j I A _ hf; cases hf
  | succ n ih =>
    intro j I A hj hf hinv
    replace hf : f_keep_2s (f_keep_2 n) (nI j) I A = some o := hf
    unfold f_keep_2s at hf
    rcases m_ifE hf with ⟨hc, hf⟩ | ⟨hc, hf⟩
    · have hj4 : j = 64 := Classical.byContradiction (fun h => nI_ge (a := j) (b := 64) (by omega) (by decide) hc)
      obtain ⟨-, hf⟩ := m_chkE hf
      obtain ⟨A1, e1, hf⟩ := m_bndE hf
      obtain ⟨-, hf⟩ := m_chkE hf
      obtain ⟨A2, e2, hf⟩ := m_bndE hf
      obtain ⟨-, hf⟩ := m_chkE hf
      obtain ⟨A3, e3, hf⟩ := m_bndE hf
      obtain ⟨-, hf⟩ := m_chkE hf
      obtain ⟨A4, e4, hf⟩ := m_bndE hf
      obtain ⟨-, hf⟩ := m_chkE hf
      obtain ⟨A5, e5, hf⟩ := m_bndE hf
      cases hf
      subst e1 e2 e3 e4 e5
      exact ⟨fun i hi => hinv i (by omega), rfl, rfl, rfl, rfl, rfl⟩
    · have hj4 : j < 64 := Classical.byContradiction (fun h => hc (nI_le (a := 64) (b := j) (by omega) (by omega)))
      obtain ⟨-, hf⟩ := m_chkE hf
      obtain ⟨v6, e6, hf⟩ := m_bndE hf
      obtain ⟨-, hf⟩ := m_chkE hf
      obtain ⟨A7, e7, hf⟩ := m_bndE hf
      obtain ⟨v8, e8, hf⟩ := m_bndE hf
      rw [nI_clamp (by omega : j < 2 ^ 31)] at e6 e7
      rw [e8, ← nI_succ] at hf
      have h24 : A7 24 = A 24 := by rw [e7]; exact va_up_ne _ _ (by decide)
      have h30 : A7 30 = upd (A 30) j v6 := by rw [e7]; exact va_up_self _ _ _
      have h1 := ih (j + 1) I A7 (by omega) hf (fun i hi => by
        rw [h24, h30]
        by_cases hij : i = j
        · rw [hij, upd_self, e6]
        · rw [upd_ne hij]; exact hinv i (by omega))
      rw [h24] at h1
      exact h1
theorem back_l {o : Int32 × MS} (n : Nat) : ∀ (j : Nat) (I : Nat → Int32) (A : Nat → Nat → Int32), j ≤ 64 → f_bringBack_2 n (nI j) I A = some o → (∀ i, i < j → A 24 i = A 30 i) → (∀ i, i < 64 → o.2.2 24 i = A 30 i) ∧ o.2.1 25 = A 31 0 ∧ o.2.1 26 = A 31 1 ∧ o.2.1 27 = A 31 2 ∧ o.2.1 28 = A 31 3 ∧ o.2.1 29 = A 31 4 := by
  induction n with
  | zero => intro j I A _ hf; cases hf
  | succ n ih =>
    intro j I A hj hf hinv
    replace hf : f_bringBack_2s (f_bringBack_2 n) (nI j) I A = some o := hf
    unfold f_bringBack_2s at hf
    rcases m_ifE hf with ⟨hc, hf⟩ | ⟨hc, hf⟩
    · have hj4 : j = 64 := Classical.byContradiction (fun h => nI_ge (a := j) (b := 64) (by omega) (by decide) hc)
      obtain ⟨-, hf⟩ := m_chkE hf
      obtain ⟨v1, e1, hf⟩ := m_bndE hf
      obtain ⟨I2, e2, hf⟩ := m_bndE hf
      obtain ⟨-, hf⟩ := m_chkE hf
      obtain ⟨v3, e3, hf⟩ := m_bndE hf
      obtain ⟨I4, e4, hf⟩ := m_bndE hf
      obtain ⟨-, hf⟩ := m_chkE hf
      obtain ⟨v5, e5, hf⟩ := m_bndE hf
      obtain ⟨I6, e6, hf⟩ := m_bndE hf
      obtain ⟨-, hf⟩ := m_chkE hf
      obtain ⟨v7, e7, hf⟩ := m_bndE hf
      obtain ⟨I8, e8, hf⟩ := m_bndE hf
      obtain ⟨-, hf⟩ := m_chkE hf
      obtain ⟨v9, e9, hf⟩ := m_bndE hf
      obtain ⟨I10, e10, hf⟩ := m_bndE hf
      cases hf
      subst e1 e2 e3 e4 e5 e6 e7 e8 e9 e10
      exact ⟨fun i hi => hinv i (by omega), rfl, rfl, rfl, rfl, rfl⟩
    · have hj4 : j < 64 := Classical.byContradiction (fun h => hc (nI_le (a := 64) (b := j) (by omega) (by omega)))
      obtain ⟨-, hf⟩ := m_chkE hf
      obtain ⟨v6, e6, hf⟩ := m_bndE hf
      obtain ⟨-, hf⟩ := m_chkE hf
      obtain ⟨A7, e7, hf⟩ := m_bndE hf
      obtain ⟨v8, e8, hf⟩ := m_bndE hf
      rw [nI_clamp (by omega : j < 2 ^ 31)] at e6 e7
      rw [e8, ← nI_succ] at hf
      have h30 : A7 30 = A 30 := by rw [e7]; exact va_up_ne _ _ (by decide)
      have h31 : A7 31 = A 31 := by rw [e7]; exact va_up_ne _ _ (by decide)
      have h24 : A7 24 = upd (A 24) j v6 := by rw [e7]; exact va_up_self _ _ _
      have h1 := ih (j + 1) I A7 (by omega) hf (fun i hi => by
        rw [h24, h30]
        by_cases hij : i = j
        · rw [hij, upd_self, e6]
        · rw [upd_ne hij]; exact hinv i (by omega))
      rw [h30, h31] at h1
      exact h1
/-- the state behind a trial: the men as they were, kept beside -/
def nA (I : Nat → Int32) (A : Nat → Nat → Int32) : Nat → Nat → Int32 := va_up (va_up A 30 (A 24)) 31 (fun i => if i = 0 then I 25 else if i = 1 then I 26 else if i = 2 then I 27 else if i = 3 then I 28 else I 29)
theorem safe_eq {mv : Int32} {I : Nat → Int32} {A : Nat → Nat → Int32} {o : Int32 × MS} (hf : f_isSafe mv I A = some o) : (∀ k, o.2.1 k = I k) ∧ ∀ q ∈ mSz, ∀ i, i < q.2 → nA I A q.1 i = o.2.2 q.1 i := by
  have key : ∀ (o1 o2 o4 o5 : Int32 × MS) (v3 : Int32), f_keep I A = some o1 → f_make mv o1.2.1 o1.2.2 = some o2 → f_isInCheck v3 o2.2.1 o2.2.2 = some o4 → f_bringBack o4.2.1 o4.2.2 = some o5 → (∀ k, o5.2.1 k = I k) ∧ ∀ q ∈ mSz, ∀ i, i < q.2 → nA I A q.1 i = o5.2.2 q.1 i := by
    intro o1 o2 o4 o5 v3 k1 k2 k3 k4
    have a1 := fr_keep k1
    have a2 := fr_make k2
    have a3 := fr_isInCheck k3
    have a4 := fr_bringBack k4
    have b1 := keep_l mFuel 0 I A (by decide) k1 (fun i hi => absurd hi (Nat.not_lt_zero _))
    have b4 := back_l mFuel 0 o4.2.1 o4.2.2 (by decide) k4 (fun i hi => absurd hi (Nat.not_lt_zero _))
    have c30 : o4.2.2 30 = o1.2.2 30 := (a3.2 30 (by decide)).trans (a2.2 30 (by decide))
    have c31 : o4.2.2 31 = o1.2.2 31 := (a3.2 31 (by decide)).trans (a2.2 31 (by decide))
    rw [c30, c31] at b4
    refine ⟨fun k => ?_, fun q hq i hi => ?_⟩
    · by_cases hk : k ∈ [25, 26, 27, 28, 29]
      · rcases List.mem_cons.mp hk with rfl | hk
        · rw [b4.2.1, b1.2.1]
        rcases List.mem_cons.mp hk with rfl | hk
        · rw [b4.2.2.1, b1.2.2.1]
        rcases List.mem_cons.mp hk with rfl | hk
        · rw [b4.2.2.2.1, b1.2.2.2.1]
        rcases List.mem_cons.mp hk with rfl | hk
        · rw [b4.2.2.2.2.1, b1.2.2.2.2.1]
        rcases List.mem_cons.mp hk with rfl | hk
        · rw [b4.2.2.2.2.2, b1.2.2.2.2.2]
        · cases hk
      · rw [a4.1 k hk, a3.1 k (by decide +revert), a2.1 k hk, a1.1 k (by decide +revert)]
    · obtain ⟨j, n⟩ := q
      by_cases h31 : j = 31
      · subst h31
        have hn : n = 5 := by
          have : ∀ q ∈ mSz, q.1 = 31 → q.2 = 5 := by decide
          exact this _ hq rfl
        subst hn
        show nA I A 31 i = o5.2.2 31 i
        rw [a4.2 31 (by decide), c31]
        have hi5 : i < 5 := hi
        match i, hi5 with
        | 0, _ => exact b1.2.1.symm
        | 1, _ => exact b1.2.2.1.symm
        | 2, _ => exact b1.2.2.2.1.symm
        | 3, _ => exact b1.2.2.2.2.1.symm
        | 4, _ => exact b1.2.2.2.2.2.symm
      · have e0 : nA I A j = va_up A 30 (A 24) j := va_up_ne _ _ h31
        by_cases h30 : j = 30
        · subst h30
          have hn : n = 64 := by
            have : ∀ q ∈ mSz, q.1 = 30 → q.2 = 64 := by decide
            exact this _ hq rfl
          subst hn
          show nA I A 30 i = o5.2.2 30 i
          rw [e0, va_up_self, a4.2 30 (by decide), c30]
          exact (b1.1 i hi).symm
        · rw [va_up_ne _ _ h30] at e0
          show nA I A j i = o5.2.2 j i
          rw [e0]
          by_cases h24 : j = 24
          · subst h24
            have hn : n = 64 := by
              have : ∀ q ∈ mSz, q.1 = 24 → q.2 = 64 := by decide
              exact this _ hq rfl
            subst hn
            rw [b4.1 i hi, b1.1 i hi]
          · rw [a4.2 j (by simpa using h24), a3.2 j (by simp), a2.2 j (by simpa using h24), a1.2 j (by simp [h30, h31])]
  unfold f_isSafe f_isSafe_0 at hf
  obtain ⟨o1, k1, hf⟩ := m_calE hf
  obtain ⟨o2, k2, hf⟩ := m_calE hf
  obtain ⟨v3, -, hf⟩ := m_bndE hf
  obtain ⟨o4, k3, hf⟩ := m_calE hf
  rcases m_ifE hf with ⟨-, hf⟩ | ⟨-, hf⟩
  · unfold f_isSafe_27 at hf
    obtain ⟨o5, k4, hf⟩ := m_calE hf
    obtain ⟨-, hf⟩ := m_chkE hf
    cases hf
    exact key o1 o2 o4 o5 _ k1 k2 k3 k4
  · unfold f_isSafe_27 at hf
    obtain ⟨o5, k4, hf⟩ := m_calE hf
    obtain ⟨-, hf⟩ := m_chkE hf
    cases hf
    exact key o1 o2 o4 o5 _ k1 k2 k3 k4
